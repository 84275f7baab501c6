theorem ag_rm {σ τ : pST} {B : BkS} {bd : Nat} {S : RnS} (h : RM σ B bd S) (hg : AgS σ τ) : RM τ B bd S ∧ FrR σ τ := by
  refine ⟨⟨mb_c h.1 (hg 0 1 (by decide)).1 fun x z1 z2 => hg.c (ge_ne z1 (by decide)), ?_⟩, ⟨(hg 0 39 (by decide)).1, (hg 0 40 (by decide)).1⟩⟩
  exact um_c h.2 (fun y z1 z2 => (hg 0 y (fun q => by
    obtain ⟨n1, n2, n3, n4⟩ := slW_ne z1 z2
    rcases q.2 with q | q | q | q
    · exact n1 q
    · exact n2 q
    · exact n3 q
    · exact n4 q)).1) (by rw [(hg 0 22 (by decide)).1]; exact h.2.al) (fun x z1 z2 => (hg.c (ge_ne z1 (by decide))).1) rfl rfl rfl rfl rfl rfl rfl rfl rfl rfl rfl rfl rfl rfl rfl
theorem rm_dbt {I : Nat → Nat → Int32} {J : Nat → Nat → Int64} {T : TbS} {c : Nat} (hc : c < 16) (h : RMtb (I, J) T 16) : RMtb (dbM I c 32, J) (dbtT T c) 16 := by
  have e21 : dbM I c 32 21 = I 21 := dbM_o (by decide)
  have e24 : dbM I c 32 24 = I 24 := dbM_o (by decide)
  refine ⟨fun k j hk hj => ?_, fun k j hk hj hs => ?_, fun k hk => h.bf k hk⟩
  · obtain ⟨h1, h2, h3⟩ := h.st k j hk hj
    show dbM I c 32 21 (32 * j + k) = hI (if j = c ∧ T.st c k ≠ 0 then 2 else T.st j k) ∧ (if 22 = 22 ∧ 32 * c ≤ 32 * j + k ∧ 32 * j + k < 32 * c + 32 then I 21 (32 * j + k) else I 22 (32 * j + k)) = pI (if j = c ∧ T.st c k ≠ 0 then 2 else T.st j k) ∧ (if j = c ∧ T.st c k ≠ 0 then 2 else T.st j k) ≤ 2
    rw [e21]
    have h1' : I 21 (32 * j + k) = hI (T.st j k) := h1
    have h2' : I 22 (32 * j + k) = pI (T.st j k) := h2
    rw [h1', h2']
    by_cases e : j = c
    · subst e
      have q0 : 22 = 22 ∧ 32 * j ≤ 32 * j + k ∧ 32 * j + k < 32 * j + 32 := by omega
      rw [if_pos q0]
      by_cases q : T.st j k = 0
      · have q5 : ¬ (j = j ∧ T.st j k ≠ 0) := fun z => z.2 q
        rw [if_neg q5, q]
        exact ⟨rfl, rfl, by decide⟩
      · have q5 : j = j ∧ T.st j k ≠ 0 := ⟨rfl, q⟩
        rw [if_pos q5]
        cases hs : T.st j k with
        | zero => exact absurd hs q
        | succ m => exact ⟨rfl, rfl, by decide⟩
    · have q0 : ¬ (22 = 22 ∧ 32 * c ≤ 32 * j + k ∧ 32 * j + k < 32 * c + 32) := by omega
      have q5 : ¬ (j = c ∧ T.st c k ≠ 0) := fun z => e z.1
      rw [if_neg q0, if_neg q5]
      exact ⟨rfl, rfl, h3⟩
  · have h1 : (if j = c ∧ T.st c k ≠ 0 then 2 else T.st j k) ≠ 0 := hs
    have h2 : T.st j k ≠ 0 := by
      split at h1
      · rename_i e; rw [e.1]; exact e.2
      · exact h1
    show dbM I c 32 24 (32 * j + k) = _ ∧ _
    rw [e24]
    exact h.nv k j hk hj h2
/-- undone, before the look row is set back -/
theorem rm_undo {σ : pST} {B : BkS} {bd c : Nat} {S : RnS} (h : RM σ B bd S) (hc : c < 16) : RM (pm_ui (pm_ui (dbM (pm_ui σ.1 0 43 (nI (S.ud + 1))) c 32) 26 c (nI (S.nm c + 1))) 25 c (nI 0), σ.2) B bd (mkRnS (dbtT S.T c) S.am S.bg S.dd S.da S.al (fup S.hw c 0) S.aw (fup S.nm c (S.nm c + 1)) S.tk S.tc S.tn S.rr S.lr S.fe S.lk (S.ud + 1) S.gu S.cn S.cc S.co) ∧ FrR σ (pm_ui (pm_ui (dbM (pm_ui σ.1 0 43 (nI (S.ud + 1))) c 32) 26 c (nI (S.nm c + 1))) 25 c (nI 0), σ.2) := by
  obtain ⟨hb, hh⟩ := h
  have h1 : RMw (pm_ui σ.1 0 43 (nI (S.ud + 1)), σ.2) bd (mkRnS S.T S.am S.bg S.dd S.da S.al S.hw S.aw S.nm S.tk S.tc S.tn S.rr S.lr S.fe S.lk (S.ud + 1) S.gu S.cn S.cc S.co) := um_ud hh
  have e43 : ∀ y, y ≠ 43 → pm_ui σ.1 0 43 (nI (S.ud + 1)) 0 y = σ.1 0 y := fun y hy => by rw [pm_ui_a, if_neg (fun z => hy z.2)]
  have b1 : RMb (pm_ui σ.1 0 43 (nI (S.ud + 1)), σ.2) B S := mb_w (σ := σ) hb (e43 1 (by decide)) fun x z1 z2 => ui_o (ge_ne z1 (by decide))
  have f1 : FrR σ (pm_ui σ.1 0 43 (nI (S.ud + 1)), σ.2) := ⟨e43 39 (by decide), e43 40 (by decide)⟩
  clear hb hh
  have t2 := rm_dbt hc b1.tb
  have hbit : ∀ k, k < 32 → (pm_ui σ.1 0 43 (nI (S.ud + 1))) 21 (32 * c + k) = 0 ∨ (pm_ui σ.1 0 43 (nI (S.ud + 1))) 21 (32 * c + k) = 1 := fun k hk => by
    have q := (b1.tb.st k c hk hc).1
    have q' : (pm_ui σ.1 0 43 (nI (S.ud + 1))) 21 (32 * c + k) = hI (S.T.st c k) := q
    rw [q']
    cases S.T.st c k with
    | zero => exact .inl rfl
    | succ m => exact .inr rfl
  generalize pm_ui σ.1 0 43 (nI (S.ud + 1)) = I at h1 b1 f1 t2 hbit ⊢
  have fd : ∀ x, x ≠ 22 → dbM I c 32 x = I x := fun x z => dbM_o z
  have h2 : RMw (dbM I c 32, σ.2) bd (mkRnS S.T S.am S.bg S.dd S.da S.al S.hw S.aw S.nm S.tk S.tc S.tn S.rr S.lr S.fe S.lk (S.ud + 1) S.gu S.cn S.cc S.co) := um_c h1 (fun y _ _ => congrFun (fd 0 (by decide)) y) ((congrFun (fd 0 (by decide)) 22).trans h1.al) (fun x z1 z2 => fd x (ge_ne z1 (by decide))) rfl rfl rfl rfl rfl rfl rfl rfl rfl rfl rfl rfl rfl rfl rfl
  have h3 : RMw (pm_ui (pm_ui (dbM I c 32) 26 c (nI (S.nm c + 1))) 25 c (nI 0), σ.2) bd (mkRnS (dbtT S.T c) S.am S.bg S.dd S.da S.al (fup S.hw c 0) S.aw (fup S.nm c (S.nm c + 1)) S.tk S.tc S.tn S.rr S.lr S.fe S.lk (S.ud + 1) S.gu S.cn S.cc S.co) := um_hw (um_nm h2) (by decide)
  have fq : ∀ x, x ≠ 25 → x ≠ 26 → pm_ui (pm_ui (dbM I c 32) 26 c (nI (S.nm c + 1))) 25 c (nI 0) x = dbM I c 32 x := fun x z1 z2 => by rw [ui_o z1, ui_o z2]
  generalize pm_ui (pm_ui (dbM I c 32) 26 c (nI (S.nm c + 1))) 25 c (nI 0) = Q at h3 fq ⊢
  clear h1 h2
  refine ⟨⟨⟨?_, ?_, ?_, fun d hd => ?_⟩, h3⟩, ?_⟩
  · exact mbk_c b1.bk (congrFun ((fq 0 (by decide) (by decide)).trans (fd 0 (by decide))) 1) fun x z1 z2 => ⟨(fq x (le_ne z2 (by decide)) (le_ne z2 (by decide))).trans (fd x (le_ne z2 (by decide))), rfl⟩
  · exact mtb_c t2 rfl fun x z1 z2 => ⟨fq x (le_ne z2 (by decide)) (le_ne z2 (by decide)), rfl⟩
  · intro y
    show Q 22 y = 0 ∨ Q 22 y = 1
    rw [fq 22 (by decide) (by decide)]
    show (if 22 = 22 ∧ 32 * c ≤ y ∧ y < 32 * c + 32 then I 21 y else I 22 y) = 0 ∨ (if 22 = 22 ∧ 32 * c ≤ y ∧ y < 32 * c + 32 then I 21 y else I 22 y) = 1
    by_cases q : 22 = 22 ∧ 32 * c ≤ y ∧ y < 32 * c + 32
    · rw [if_pos q]
      have := hbit (y - 32 * c) (by clear b1 t2 h3; omega)
      rw [show 32 * c + (y - 32 * c) = y by clear b1 t2 h3; omega] at this
      exact this
    · rw [if_neg q]
      exact b1.z y
  · exact ma_s (ma_c (b1.a d hd) fun x z1 z2 => ⟨(fq x (le_ne z2 (by decide)) (le_ne z2 (by decide))).trans (fd x (le_ne z2 (by decide))), rfl⟩) rfl rfl rfl
  · exact f1.trans ⟨congrFun ((fq 0 (by decide) (by decide)).trans (fd 0 (by decide))) 39, congrFun ((fq 0 (by decide) (by decide)).trans (fd 0 (by decide))) 40⟩
theorem rm_look0 {σ : pST} {B : BkS} {bd w : Nat} {S : RnS} (h : RM σ B bd S) : RM (pm_ui (pm_ui (σ.1) 28 w (nI 0)) 0 42 (nI (S.lk + 1)), σ.2) B bd (mkRnS S.T S.am S.bg S.dd S.da S.al S.hw S.aw S.nm (fup S.tk w 0) S.tc S.tn S.rr S.lr S.fe (S.lk + 1) S.ud S.gu S.cn S.cc S.co) ∧ FrR σ (pm_ui (pm_ui (σ.1) 28 w (nI 0)) 0 42 (nI (S.lk + 1)), σ.2) := by
  have e : ∀ y, y ≠ 42 → (pm_ui (pm_ui (σ.1) 28 w (nI 0)) 0 42 (nI (S.lk + 1))) 0 y = σ.1 0 y := fun y hy => by rw [pm_ui_a, if_neg (fun z => hy z.2), ui_o (by decide)]
  refine ⟨⟨mb_s (S := S) (mb_w (σ := σ) h.1 (e 1 (by decide)) fun x z1 z2 => ?_) rfl rfl rfl rfl, um_lk (um_tk0 h.2)⟩, ⟨e 39 (by decide), e 40 (by decide)⟩⟩
  rw [ui_o (ge_ne z1 (by decide)), ui_o (le_ne z2 (by decide))]
theorem rm_undo_f {σ : pST} {B : BkS} {bd c : Nat} {S : RnS} (h : RM σ B bd S) (hc : c < 16) (hbb : bd ≤ S.nm c + 1) : RM (pm_ui (pm_ui (pm_ui (dbM (pm_ui σ.1 0 43 (nI (S.ud + 1))) c 32) 26 c (nI (S.nm c + 1))) 25 c (nI 0)) 0 41 (nI 1), σ.2) B bd (undoS bd S c) ∧ FrR σ (pm_ui (pm_ui (pm_ui (dbM (pm_ui σ.1 0 43 (nI (S.ud + 1))) c 32) 26 c (nI (S.nm c + 1))) 25 c (nI 0)) 0 41 (nI 1), σ.2) := by
  obtain ⟨r, f⟩ := rm_undo h hc
  generalize pm_ui (pm_ui (dbM (pm_ui σ.1 0 43 (nI (S.ud + 1))) c 32) 26 c (nI (S.nm c + 1))) 25 c (nI 0) = Q at r f ⊢
  have e8 : ∀ y, y ≠ 41 → pm_ui Q 0 41 (nI 1) 0 y = Q 0 y := fun y hy => by rw [pm_ui_a, if_neg (fun z => hy z.2)]
  have q := um_fe r.2
  refine ⟨⟨?_, ?_⟩, f.trans ⟨e8 39 (by decide), e8 40 (by decide)⟩⟩
  · refine mb_s (mb_c r.1 (e8 1 (by decide)) fun x z1 z2 => ⟨ui_o (ge_ne z1 (by decide)), rfl⟩) ?_ ?_ ?_ ?_
    all_goals dsimp only [undoS, mkRnS_T, mkRnS_am, mkRnS_bg, mkRnS_dd, mkRnS_da, mkRnS_al, mkRnS_hw, mkRnS_aw, mkRnS_nm, mkRnS_tk, mkRnS_tc, mkRnS_tn, mkRnS_rr, mkRnS_lr, mkRnS_fe, mkRnS_lk, mkRnS_ud, mkRnS_gu, mkRnS_cn, mkRnS_cc, mkRnS_co]
  · have eu : undoS bd S c = (mkRnS (dbtT S.T c) S.am S.bg S.dd S.da S.al (fup S.hw c 0) S.aw (fup S.nm c (S.nm c + 1)) S.tk S.tc S.tn S.rr S.lr (true) S.lk (S.ud + 1) S.gu S.cn S.cc S.co) := by
      unfold undoS
      rw [decide_eq_true hbb, if_pos hbb]
    rw [eu]
    exact q
theorem rm_undo_u {σ : pST} {B : BkS} {bd c : Nat} {S : RnS} (h : RM σ B bd S) (hc : c < 16) (hf : S.fe = false) (hbb : ¬ bd ≤ S.nm c + 1) : RM (pm_ui (pm_ui (pm_ui (dbM (pm_ui σ.1 0 43 (nI (S.ud + 1))) c 32) 26 c (nI (S.nm c + 1))) 25 c (nI 0)) 0 38 (nI (min S.lr (c + 1))), σ.2) B bd (undoS bd S c) ∧ FrR σ (pm_ui (pm_ui (pm_ui (dbM (pm_ui σ.1 0 43 (nI (S.ud + 1))) c 32) 26 c (nI (S.nm c + 1))) 25 c (nI 0)) 0 38 (nI (min S.lr (c + 1))), σ.2) := by
  obtain ⟨r, f⟩ := rm_undo h hc
  generalize pm_ui (pm_ui (dbM (pm_ui σ.1 0 43 (nI (S.ud + 1))) c 32) 26 c (nI (S.nm c + 1))) 25 c (nI 0) = Q at r f ⊢
  have e8 : ∀ y, y ≠ 38 → pm_ui Q 0 38 (nI (min S.lr (c + 1))) 0 y = Q 0 y := fun y hy => by rw [pm_ui_a, if_neg (fun z => hy z.2)]
  have q := um_lr (x := min S.lr (c + 1)) r.2
  refine ⟨⟨?_, ?_⟩, f.trans ⟨e8 39 (by decide), e8 40 (by decide)⟩⟩
  · refine mb_s (mb_c r.1 (e8 1 (by decide)) fun x z1 z2 => ⟨ui_o (ge_ne z1 (by decide)), rfl⟩) ?_ ?_ ?_ ?_
    all_goals dsimp only [undoS, mkRnS_T, mkRnS_am, mkRnS_bg, mkRnS_dd, mkRnS_da, mkRnS_al, mkRnS_hw, mkRnS_aw, mkRnS_nm, mkRnS_tk, mkRnS_tc, mkRnS_tn, mkRnS_rr, mkRnS_lr, mkRnS_fe, mkRnS_lk, mkRnS_ud, mkRnS_gu, mkRnS_cn, mkRnS_cc, mkRnS_co]
  · have eu : undoS bd S c = (mkRnS (dbtT S.T c) S.am S.bg S.dd S.da S.al (fup S.hw c 0) S.aw (fup S.nm c (S.nm c + 1)) S.tk S.tc S.tn S.rr (min S.lr (c + 1)) S.fe S.lk (S.ud + 1) S.gu S.cn S.cc S.co) := by
      unfold undoS
      rw [decide_eq_false hbb, if_neg hbb, ← hf]
    rw [eu]
    exact q
