theorem b_lr {σ : pST} {B : BkS} {S : RnS} {x : Nat} (h : RXb σ B S) : RXb σ B (mkRnS S.T S.am S.bg S.dd S.da S.al S.hw S.aw S.nm S.tk S.tc S.tn S.rr (x) S.fe S.lk S.ud S.gu S.cn S.cc S.co) := h
theorem rx_end {σ : pST} {B : BkS} {sz bd w c : Nat} {S : RnS} (hB : BkOK B) (h : RX σ B sz bd S) (hS : SOK B sz S) (hf : S.fe = false) (hw : w < 4) (hc : c < B.n) (hb : 1 ≤ S.bg c) : ∃ ρ, kX6_end σ [.inr (.inr 8), .inl (nI w), .inl (nI c)] = some (ρ, none) ∧ RX ρ B sz bd (endS B S w c) ∧ FrS σ ρ := by
  have hc16 : c < 16 := Nat.lt_of_lt_of_le hc hB.n
  have hl : S.lr ≤ 16 := Nat.le_trans hS.lr hB.n
  obtain ⟨σa, σb, e1, e2, r, fr, hfr⟩ := rx_end1 (w := w) hB h hS hc hb
  have hlr : σb.1 8 10 = nI S.lr := r.2.lr hf
  have hnm := h.2.nm c hc16
  unfold endS
  generalize end1S S w c B.n = E at r ⊢
  by_cases h1 : c < S.lr
  · rw [if_pos h1]
    by_cases h2 : freshA S.T c (S.am c) 32 = true
    · rw [if_pos h2]
      have e := ev_X6_end_f σ hw hc16 hnm e1 e2 hlr hl h1 (fun z => by rw [hfr.mp z] at h2; cases h2)
      exact ⟨_, e, ⟨b_lr (b_w (S := E) r.1 fun x z1 z2 z3 z4 => ui_o z3), uw_lr r.2⟩, fr.trans (FrS.w (fun x z => ui_o (fr_ne z (by decide) (by decide))) (by simp [pm_ui_a]))⟩
    · rw [if_neg h2]
      obtain ⟨σc, e3, r3, fr3⟩ := rx_giveLook (w := w) (c := c) r hw hc16
      exact ⟨σc, ev_X6_end_l σ hw hc16 hnm e1 e2 hlr hl h1 (hfr.mpr (Bool.eq_false_iff.mpr h2)) e3, r3, fr.trans fr3⟩
  · rw [if_neg h1]
    exact ⟨σb, ev_X6_end_n σ hw hc16 hnm e1 e2 hlr hl (Nat.le_of_not_lt h1), r, fr⟩
