theorem rm_look {σ : pST} {B : BkS} {sz bd w : Nat} {S : RnS} (hB : BkOK B) (h : RM σ B bd S) (hS : SOK B sz S) (hK : ∀ c, kr100 (S.am c)) (hb1 : bd ≤ 100) (hf : S.fe = false) (hw : w < 4) (h2 : S.tk w = 2) (hcn : S.cn < 2 ^ 30) : ∃ ρ, kX8_lookStep σ [.inr (.inr 0), .inl (nI w)] = some (ρ, none) ∧ RM ρ B bd (lookS bd S w) ∧ FrR σ ρ := by
  obtain ⟨hc, hb⟩ := hS.tc w (by rw [h2]; decide)
  have hc16 : S.tc w < 16 := Nat.lt_of_lt_of_le hc hB.n
  have htc := h.2.tc w hw (by rw [h2]; decide)
  have htn := h.2.tn w hw h2
  have q1 := hS.hw (S.tc w)
  have q2 := hS.nm (S.tc w)
  have q3 := hS.tn w h2
  have q2' : S.nm (S.tc w) ≤ 1000 := Nat.le_trans q2 (by decide)
  have q3' : S.tn w ≤ 1000 := Nat.le_trans q3 (by decide)
  have hlr : S.lr ≤ 16 := Nat.le_trans hS.lr hB.n
  have hrr : S.rr ≤ 16 := Nat.le_trans hS.rr hB.n
  have hak := hS.am _ hc16 hb
  have hok := hS.am
  have htm := hS.tn1
  have v1 := h.2.lk
  have v2 := h.2.hw _ hc16
  have v3 := h.2.nm _ hc16
  obtain ⟨r0, f0⟩ := rm_look0 (w := w) h
  clear h hS
  unfold lookS
  by_cases hq : S.hw (S.tc w) = 2 ∧ S.nm (S.tc w) = S.tn w
  · rw [if_pos hq]
    have hA : RMat (pm_ui (pm_ui (σ.1) 28 w (nI 0)) 0 42 (nI (S.lk + 1)), σ.2) (S.tc w) (S.am (S.tc w)) := ((r0.1.a _ hc16).am hb).1
    have hT : RMtb (pm_ui (pm_ui (σ.1) 28 w (nI 0)) 0 42 (nI (S.lk + 1)), σ.2) S.T 16 := r0.1.tb
    have g1 : ∀ o, (noteS (mkRnS S.T S.am S.bg S.dd S.da S.al S.hw S.aw S.nm (fup S.tk w 0) S.tc S.tn S.rr S.lr S.fe (S.lk + 1) S.ud S.gu S.cn S.cc S.co) (S.tc w) o).nm = S.nm := fun _ => rfl
    have g2 : ∀ o, (noteS (mkRnS S.T S.am S.bg S.dd S.da S.al S.hw S.aw S.nm (fup S.tk w 0) S.tc S.tn S.rr S.lr S.fe (S.lk + 1) S.ud S.gu S.cn S.cc S.co) (S.tc w) o).lr = S.lr := fun _ => rfl
    have g3 : ∀ o, (noteS (mkRnS S.T S.am S.bg S.dd S.da S.al S.hw S.aw S.nm (fup S.tk w 0) S.tc S.tn S.rr S.lr S.fe (S.lk + 1) S.ud S.gu S.cn S.cc S.co) (S.tc w) o).rr = S.rr := fun _ => rfl
    have g4 : ∀ o, (noteS (mkRnS S.T S.am S.bg S.dd S.da S.al S.hw S.aw S.nm (fup S.tk w 0) S.tc S.tn S.rr S.lr S.fe (S.lk + 1) S.ud S.gu S.cn S.cc S.co) (S.tc w) o).fe = S.fe := fun _ => rfl
    have g5 : ∀ o, (noteS (mkRnS S.T S.am S.bg S.dd S.da S.al S.hw S.aw S.nm (fup S.tk w 0) S.tc S.tn S.rr S.lr S.fe (S.lk + 1) S.ud S.gu S.cn S.cc S.co) (S.tc w) o).bg = S.bg := fun _ => rfl
    have g6 : ∀ o, (noteS (mkRnS S.T S.am S.bg S.dd S.da S.al S.hw S.aw S.nm (fup S.tk w 0) S.tc S.tn S.rr S.lr S.fe (S.lk + 1) S.ud S.gu S.cn S.cc S.co) (S.tc w) o).am = S.am := fun _ => rfl
    have hcn' : ((mkRnS S.T S.am S.bg S.dd S.da S.al S.hw S.aw S.nm (fup S.tk w 0) S.tc S.tn S.rr S.lr S.fe (S.lk + 1) S.ud S.gu S.cn S.cc S.co) : RnS).cn < 2 ^ 30 := hcn
    have hz := r0.1.z
    generalize (mkRnS S.T S.am S.bg S.dd S.da S.al S.hw S.aw S.nm (fup S.tk w 0) S.tc S.tn S.rr S.lr S.fe (S.lk + 1) S.ud S.gu S.cn S.cc S.co) = S1 at r0 f0 g1 g2 g3 g4 g5 g6 hcn' ⊢
    generalize hF : fcA S.T (S.tc w) (S.am (S.tc w)) (S.am (S.tc w)).kn 0 = F
    suffices key : ∃ x, kX8_lookStep σ [.inr (.inr 0), .inl (nI w)] = some x ∧ (x.2 = none ∧ RM x.1 B bd (match (generalizing := false) F with
      | none => S1
      | some i => redoS bd (noteS S1 (S.tc w) (wbT S.T ((S.am (S.tc w)).kl i) (S.tc w))) w (S.tc w)) ∧ FrR σ x.1) by
      obtain ⟨⟨ρ, r⟩, k1, k2, k3⟩ := key
      have k2' : r = none := k2
      rw [k2'] at k1
      exact ⟨ρ, k1, k3⟩
    refine le_X8_lookStep σ hw hc16 htc v1 v2 q1 v3 q2' htn q3' hq ?_
    refine lp_X8_lookStep (T := S.T) (A := S.am (S.tc w)) hc16 hA hak (hK _) hT htm hz (S.am (S.tc w)).kn 0 _ (Nat.zero_add _) (fun _ _ _ => ⟨rfl, rfl⟩) (fun τ hg hfc => ?_) (fun τ i hg hfc h27 => ?_)
    · obtain ⟨ra, fa⟩ := ag_rm r0 hg
      have eF : F = none := hF.symm.trans hfc
      subst eF
      exact lt_X8_lookStep_n ⟨rfl, ra, f0.trans fa⟩
    · obtain ⟨ra, fa⟩ := ag_rm r0 hg
      have eF : F = some i := hF.symm.trans hfc
      subst eF
      clear r0 hA
      obtain ⟨ρ, e, rn, fn, _⟩ := rm_note (c := S.tc w) (o := wbT S.T ((S.am (S.tc w)).kl i) (S.tc w)) ra hcn'
      exact rm_redo rn (by rw [g5, g6]; exact hok) hw hc16 (by rw [g1]; exact q2') (by rw [g2]; exact hlr) (by rw [g3]; exact hrr) hb1 ((g4 _).trans hf) h27 e (f0.trans (fa.trans fn))
  · rw [if_neg hq]
    exact ⟨_, ev_X8_look_n σ hw hc16 htc v1 v2 q1 v3 q2' htn q3' hq, r0, f0⟩
theorem rm_setlr {σ : pST} {B : BkS} {bd x : Nat} {S : RnS} (h : RM σ B bd S) : RM (pm_ui (σ.1) 0 38 (nI x), σ.2) B bd (mkRnS S.T S.am S.bg S.dd S.da S.al S.hw S.aw S.nm S.tk S.tc S.tn S.rr (x) S.fe S.lk S.ud S.gu S.cn S.cc S.co) ∧ FrR σ (pm_ui (σ.1) 0 38 (nI x), σ.2) := by
  have e : ∀ y, y ≠ 38 → pm_ui σ.1 0 38 (nI x) 0 y = σ.1 0 y := fun y hy => by rw [pm_ui_a, if_neg (fun z => hy z.2)]
  exact ⟨⟨mb_s (S := S) (mb_w (σ := σ) h.1 (e 1 (by decide)) fun x z1 z2 => ui_o (ge_ne z1 (by decide))) rfl rfl rfl rfl, um_lr h.2⟩, ⟨e 39 (by decide), e 40 (by decide)⟩⟩
theorem rm_setrr {σ : pST} {B : BkS} {bd x : Nat} {S : RnS} (h : RM σ B bd S) : RM (pm_ui (σ.1) 0 37 (nI x), σ.2) B bd (mkRnS S.T S.am S.bg S.dd S.da S.al S.hw S.aw S.nm S.tk S.tc S.tn (x) S.lr S.fe S.lk S.ud S.gu S.cn S.cc S.co) ∧ FrR σ (pm_ui (σ.1) 0 37 (nI x), σ.2) := by
  have e : ∀ y, y ≠ 37 → pm_ui σ.1 0 37 (nI x) 0 y = σ.1 0 y := fun y hy => by rw [pm_ui_a, if_neg (fun z => hy z.2)]
  exact ⟨⟨mb_s (S := S) (mb_w (σ := σ) h.1 (e 1 (by decide)) fun x z1 z2 => ui_o (ge_ne z1 (by decide))) rfl rfl rfl rfl, um_rr h.2⟩, ⟨e 39 (by decide), e 40 (by decide)⟩⟩
theorem rm_step {σ : pST} {B : BkS} {sz bd w : Nat} {S : RnS} (hB : BkOK B) (h : RM σ B bd S) (hS : SOK B sz S) (hK : ∀ c, kr100 (S.am c)) (hf : S.fe = false) (hb1 : bd ≤ 100) (hw : w < 4) (hcn : S.cn < 2 ^ 30) : ∃ ρ, kX8_step σ [.inr (.inr 0), .inl (nI w)] = some (ρ, none) ∧ RM ρ B bd (stepS B bd S w) ∧ FrR σ ρ := by
  have ht := h.2.tk w hw
  have h2 := hS.tk w
  unfold stepS
  by_cases e1 : S.tk w = 1
  · rw [if_pos e1]
    obtain ⟨ρ, e, r, fr⟩ := rm_runStep hB h hS hw e1 hcn
    exact ⟨ρ, ev_X8_step_1 σ hw (by rw [ht, e1]) e, r, fr⟩
  · rw [if_neg e1]
    by_cases e2 : S.tk w = 2
    · rw [if_pos e2]
      obtain ⟨ρ, e, r, fr⟩ := rm_look hB h hS hK hb1 hf hw e2 hcn
      exact ⟨ρ, ev_X8_step_2 σ hw (by rw [ht, e2]) e, r, fr⟩
    · rw [if_neg e2]
      have hn := hB.n
      have hlr : S.lr ≤ 16 := Nat.le_trans hS.lr hn
      have hrr : S.rr ≤ 16 := Nat.le_trans hS.rr hn
      have q1 := hS.hw
      have hok := hS.am
      have v1 := h.2.lr
      have v2 := h.2.rr
      have v3 := h.1.bk.n
      have v4 := h.2.hw
      have e0 : S.tk w = 0 := by
        clear h hS v1 v2 v3 v4
        omega
      rw [e0] at ht
      clear hS
      unfold takeS
      by_cases h1 : S.lr < S.rr
      · rw [if_pos h1]
        have h16 : S.lr < 16 := Nat.lt_of_lt_of_le h1 hrr
        obtain ⟨r, fr⟩ := rm_setlr (x := S.lr + 1) h
        by_cases h2 : S.hw S.lr = 2
        · rw [if_pos h2]
          obtain ⟨ρ, e, r2, fr2⟩ := rm_toLook (w := w) (c := S.lr) r hw h16
          exact ⟨ρ, ev_X8_take_ll σ hw ht v1 hlr v2 hrr v3 hn h1 (v4 _ h16) h2 e, r2, fr.trans fr2⟩
        · rw [if_neg h2]
          exact ⟨_, ev_X8_take_l σ hw ht v1 hlr v2 hrr v3 hn h1 (v4 _ h16) (q1 _) h2, r, fr⟩
      · rw [if_neg h1]
        by_cases h3 : S.rr < B.n
        · rw [if_pos h3]
          have h16 : S.rr < 16 := Nat.lt_of_lt_of_le h3 hn
          obtain ⟨r, fr⟩ := rm_setrr (x := S.rr + 1) h
          by_cases h2 : S.hw S.rr = 0
          · rw [if_pos h2]
            obtain ⟨ρ, e, r2, fr2⟩ := rm_toRun (w := w) (c := S.rr) r hok hw h16
            exact ⟨ρ, ev_X8_take_rr σ hw ht v1 hlr v2 hrr v3 hn h1 h3 (v4 _ h16) h2 e, r2, fr.trans fr2⟩
          · rw [if_neg h2]
            exact ⟨_, ev_X8_take_r σ hw ht v1 hlr v2 hrr v3 hn h1 h3 (v4 _ h16) (q1 _) h2, r, fr⟩
        · rw [if_neg h3]
          exact ⟨σ, ev_X8_take_i σ hw ht v1 hlr v2 hrr v3 hn h1 h3, h, ⟨rfl, rfl⟩⟩
