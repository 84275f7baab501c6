theorem opM0_o {σ : pST} {x : Nat} (h : x ≠ 0) : opM0 σ x = σ.1 x := by
  unfold opM0
  rw [ui_o h, ui_o h, ui_o h, ui_o h, ui_o h, ui_o h, ui_o h, ui_o h, ui_o h, ui_o h]
theorem opnM_o {σ : pST} {x : Nat} (h0 : x ≠ 0) (h1 : x ≠ 21) (h2 : x ≠ 22) (h3 : ¬ (x = 25 ∨ x = 26 ∨ x = 19 ∨ x = 20 ∨ x = 12 ∨ x = 9 ∨ x = 17)) (h4 : x ≠ 28) : (opnM σ).1 x = σ.1 x := by
  funext y
  show (if x = 28 ∧ _ then _ else zcM (clM (opM0 σ) 512) 16 x y) = _
  rw [if_neg (fun z => h4 z.1)]
  show (if _ then _ else clM (opM0 σ) 512 x y) = _
  rw [if_neg (fun z => h3 z.1), clM_o h1 h2, opM0_o h0]
theorem opnM_0 {σ : pST} {y : Nat} : (opnM σ).1 0 y = opM0 σ 0 y := by
  show (if 0 = 28 ∧ y < 4 then nI 0 else zcM (clM (opM0 σ) 512) 16 0 y) = _
  rw [if_neg (fun z => absurd z.1 (by decide))]
  show (if _ then _ else clM (opM0 σ) 512 0 y) = _
  rw [if_neg (fun z => absurd z.1 (by decide)), clM_o (by decide) (by decide)]
theorem opnM_c {σ : pST} {x y : Nat} (h3 : x = 25 ∨ x = 26 ∨ x = 19 ∨ x = 20 ∨ x = 12 ∨ x = 9 ∨ x = 17) (hy : y < 16) : (opnM σ).1 x y = 0 := by
  show (if x = 28 ∧ _ then _ else zcM (clM (opM0 σ) 512) 16 x y) = _
  rw [if_neg (by omega)]
  show (if _ then _ else _) = _
  rw [if_pos ⟨h3, hy⟩]
  rfl
theorem opnM_t {σ : pST} {x y : Nat} (h : x = 21 ∨ x = 22) (hy : y < 512) : (opnM σ).1 x y = 0 := by
  show (if x = 28 ∧ _ then _ else zcM (clM (opM0 σ) 512) 16 x y) = _
  rw [if_neg (by omega)]
  show (if _ then _ else clM (opM0 σ) 512 x y) = _
  rw [if_neg (by omega)]
  exact clM_z h hy
theorem opnM_w {σ : pST} {y : Nat} (hy : y < 4) : (opnM σ).1 28 y = 0 := (if_pos ⟨rfl, hy⟩).trans rfl
theorem rm_open {σ : pST} {B : BkS} {bd : Nat} {bf : Nat → Int64} (hbk : RMbk σ B) (hbd : σ.1 0 2 = nI bd) (hbf : ∀ k, k < 32 → σ.2 1 k = bf k) (hz : ∀ y, σ.1 22 y = 0 ∨ σ.1 22 y = 1) : RM (opnM σ) B bd (S0 bf) ∧ (opnM σ).1 0 39 = nI B.n ∧ (opnM σ).1 0 40 = nI 0 := by
  have e1 : (opnM σ).1 0 1 = σ.1 0 1 := by rw [opnM_0]; simp [opM0, pm_ui_a]
  have hn := hbk.n
  refine ⟨⟨⟨?_, ⟨fun k j hk hj => ⟨?_, ?_, Nat.zero_le _⟩, fun k j hk hj hs => absurd rfl hs, hbf⟩, fun y => ?_, fun c hc => ⟨opnM_c (by decide) hc, fun z => absurd (show 1 ≤ 0 from z) (by decide)⟩⟩, ?_⟩, ?_, ?_⟩
  · exact mbk_c hbk e1 fun x z1 z2 => ⟨opnM_o (ge_ne z1 (by decide)) (le_ne z2 (by decide)) (le_ne z2 (by decide)) (by clear hbk; omega) (le_ne z2 (by decide)), rfl⟩
  · exact opnM_t (.inl rfl) (by clear hbk; omega)
  · exact opnM_t (.inr rfl) (by clear hbk; omega)
  · by_cases e : y < 512
    · exact .inl (opnM_t (.inr rfl) e)
    · have q : (opnM σ).1 22 y = σ.1 22 y := by
        show (if 22 = 28 ∧ y < 4 then nI 0 else zcM (clM (opM0 σ) 512) 16 22 y) = _
        rw [if_neg (fun z => absurd z.1 (by decide))]
        show (if _ then _ else clM (opM0 σ) 512 22 y) = _
        rw [if_neg (by omega)]
        show (if _ then _ else opM0 σ 22 y) = _
        rw [if_neg (fun z => e z.2), opM0_o (by decide)]
      rw [q]
      exact hz y
  · refine ⟨?_, ?_, ?_, ?_, ?_, ?_, ?_, ?_, fun c hc => opnM_c (by decide) hc, fun c hc z => absurd (show (0 : Nat) = 3 from z) (by decide), fun c hc => opnM_c (by decide) hc, fun w hw => opnM_w hw, fun w hw z => absurd rfl z, fun w hw z => absurd (show (0 : Nat) = 2 from z) (by decide), ?_, fun i hi z => absurd z (Nat.not_lt_zero _)⟩
    all_goals rw [opnM_0]
    all_goals try dsimp only [S0, mkRnS_T, mkRnS_am, mkRnS_bg, mkRnS_dd, mkRnS_da, mkRnS_al, mkRnS_hw, mkRnS_aw, mkRnS_nm, mkRnS_tk, mkRnS_tc, mkRnS_tn, mkRnS_rr, mkRnS_lr, mkRnS_fe, mkRnS_lk, mkRnS_ud, mkRnS_gu, mkRnS_cn, mkRnS_cc, mkRnS_co]
    · simp [opM0, pm_ui_a, hbd]
    all_goals simp [opM0, pm_ui_a]
    rfl
  · rw [opnM_0]
    simp [opM0, pm_ui_a, hn]
  · rw [opnM_0]
    simp [opM0, pm_ui_a]
/-- all that holds of the reference after t turns -/
abbrev WM (B : BkS) (sz bd : Nat) (S : RnS) (t : Nat) (σ : pST) : Prop := RM σ B bd S ∧ SOK B sz S ∧ KOK B S ∧ (S.fe = false → TI B bd S) ∧ S.cn ≤ t ∧ σ.1 0 40 = nI t ∧ σ.1 0 39 = nI B.n
theorem rm_t {σ : pST} {B : BkS} {bd : Nat} {S : RnS} {v : Int32} (h : RM σ B bd S) : RM (pm_ui (σ.1) 0 40 v, σ.2) B bd S := by
  have e : ∀ y, y ≠ 40 → pm_ui σ.1 0 40 v 0 y = σ.1 0 y := fun y hy => by rw [pm_ui_a, if_neg (fun z => hy z.2)]
  refine ⟨mb_w (σ := σ) h.1 (e 1 (by decide)) fun x z1 z2 => ui_o (ge_ne z1 (by decide)), ?_⟩
  exact um_c h.2 (fun y z1 z2 => e y (by clear h; omega)) ((e 22 (by decide)).trans h.2.al) (fun x z1 z2 => ui_o (ge_ne z1 (by decide))) rfl rfl rfl rfl rfl rfl rfl rfl rfl rfl rfl rfl rfl rfl rfl
theorem wm_step {B : BkS} {sz bd w t : Nat} {S : RnS} {σ : pST} (hB : BkOK B) (hb1 : bd ≤ 100) (hw : w < sz) (h4 : sz ≤ 4) (ht : t < 1000000) (hf : S.fe = false) (h : WM B sz bd S t σ) : ∃ ρ, kX8_step (pm_ui σ.1 0 40 (nI (t + 1)), σ.2) [.inr (.inr 0), .inl (nI w)] = some (ρ, none) ∧ WM B sz bd (stepS B bd S w) (t + 1) ρ := by
  obtain ⟨r, s, k, ti, cn, tu, fr⟩ := h
  have hcn : S.cn < 2 ^ 30 := by clear r s k ti; omega
  have hnm : ∀ c, S.nm c < 100 := fun c => Nat.lt_of_lt_of_le ((ti hf).nm c) hb1
  obtain ⟨ρ, e, r2, f2⟩ := rm_step (w := w) hB (rm_t (v := nI (t + 1)) r) s k.kr hf hb1 (Nat.lt_of_lt_of_le hw h4) hcn
  obtain ⟨k2, _, c2⟩ := kok_step (bd := bd) (w := w) s k
  refine ⟨ρ, e, r2, sok_step hB s hnm, k2, fun q => (step_ok (G := 0) (ti hf) hb1 hw q).1, ?_, ?_, ?_⟩
  · clear r s k ti r2 k2; omega
  · rw [f2.2]
    simp [pm_ui_a]
  · rw [f2.1]
    simpa [pm_ui_a] using fr
theorem wm_done {B : BkS} {sz bd t : Nat} {S : RnS} {σ : pST} (hB : BkOK B) (h4 : sz ≤ 4) (h : WM B sz bd S t σ) : kX8_isDone σ [.inr (.inr 0), .inl (nI sz)] = some (σ, some (.inl (if idl S.tk sz = 1 ∧ B.n ≤ S.rr ∧ B.n ≤ S.lr then nI 1 else nI 0))) := by
  obtain ⟨r, s, _⟩ := h
  have hn := hB.n
  have hr : S.rr ≤ 16 := Nat.le_trans s.rr hn
  have hl : S.lr ≤ 16 := Nat.le_trans s.lr hn
  exact ev_X8_isDone σ h4 (fun w hw => ⟨r.2.tk w (Nat.lt_of_lt_of_le hw h4), s.tk w⟩) r.2.rr hr r.2.lr hl r.1.bk.n hn
theorem wm_dt {B : BkS} {sz bd t : Nat} {S : RnS} {σ : pST} (hB : BkOK B) (h4 : sz ≤ 4) (h : WM B sz bd S t σ) (hd : doneS B sz S) : kX8_isDone σ [.inr (.inr 0), .inl (nI sz)] = some (σ, some (.inl (nI 1))) := by
  rw [wm_done hB h4 h, if_pos ⟨(idl_iff sz).mpr hd.2.2, hd.1, hd.2.1⟩]
theorem wm_df {B : BkS} {sz bd t : Nat} {S : RnS} {σ : pST} (hB : BkOK B) (h4 : sz ≤ 4) (h : WM B sz bd S t σ) (hd : ¬ doneS B sz S) : kX8_isDone σ [.inr (.inr 0), .inl (nI sz)] = some (σ, some (.inl (nI 0))) := by
  rw [wm_done hB h4 h, if_neg (fun z => hd ⟨z.2.1, z.2.2, (idl_iff sz).mp z.1⟩)]
