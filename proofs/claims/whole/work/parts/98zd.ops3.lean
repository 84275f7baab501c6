/-! ===== conflict, clear, leaf, bound, call ===== -/
theorem op_12 {j : Nat} {σ τ : pST} {a : Nat → Int32} (h : InvP j σ τ) : StepP 12 j σ τ a := by
  obtain ⟨B, bf, bd, n, S, t, h⟩ := h
  have e1 := ev_X7_conflict σ (a 1) (a 2)
  have e2 := ev_X8_conflict τ (a 1) (a 2)
  have c1 := h.rf.cn
  have c2 := h.mf.1.2.2.2.2.2.2.2.1
  have hcn := h.cn
  rw [c1] at e1
  rw [c2] at e2
  by_cases q : ¬ a 1 < 0 ∧ ¬ nI S.cn ≤ a 1 ∧ ¬ nI 200 ≤ a 1 ∧ ¬ a 2 < 0 ∧ a 2 ≤ nI 1
  · rw [if_pos q] at e1 e2
    obtain ⟨i, hi, e⟩ := (i32_in (N := 200) (by decide) (a 1)).resolve_left (fun z => z.elim q.1 q.2.2.1)
    have hi2 : i < S.cn := Nat.lt_of_not_le fun z => q.2.1 (by rw [e]; exact (nI_leI (by clear h; omega) (by clear h; omega)).mpr z)
    have e3 : (a 1).toNatClampNeg = i := by rw [e]; exact nI_clamp (by clear h; omega)
    rw [e3] at e1 e2
    obtain ⟨f1, f2⟩ := h.rf.cf i hi hi2
    obtain ⟨g1, g2⟩ := h.mf.2.1 i hi hi2
    rw [f1, f2] at e1
    rw [g1, g2] at e2
    exact iv_same h e1 e2 ⟨_, rfl⟩
  · rw [if_neg q] at e1 e2
    exact iv_same h e1 e2 ⟨_, rfl⟩
/-- what the small ops change: the object's own slots, the leaves, the block -/
theorem inv_small {j : Nat} {σ τ σ' τ' : pST} {B B' : BkS} {bf bf' : Nat → Int64} {bd bd' n t : Nat} {S : RnS} (h : INV j σ τ B bf bd n S t) (ok : BkOK B') (cnt : B'.n + sumN B'.ac B'.n ≤ j + 1) (xb : RXbk σ' B') (mb : RMbk τ' B') (lf : ∀ k, k < 32 → σ'.2 1 k = bf' k ∧ τ'.2 1 k = bf' k) (hbd : 1 ≤ bd' ∧ bd' ≤ 100 ∧ σ'.1 0 4 = nI bd' ∧ τ'.1 0 2 = nI bd')
    (fx : ∀ x, 8 ≤ x → σ'.1 x = σ.1 x ∧ σ'.2 x = σ.2 x) (fm : ∀ x, 7 ≤ x → τ'.1 x = τ.1 x ∧ τ'.2 x = τ.2 x) (f0 : ∀ y, y ≠ 1 → y ≠ 2 → τ'.1 0 y = τ.1 0 y) : InvP (j + 1) σ' τ' := by
  obtain ⟨k1, k2, k3, k4, k5, k6, k7, k8, k9, k10, k11, k12⟩ := h
  refine ⟨B', bf', bd', n, S, t, ok, cnt, xb, mb, lf, hbd, ?_, fun c hc => ?_, k9, rf_c k10 k9 fun x z1 z2 => fx x z1, ?_, k12⟩
  · rw [(fm 22 (by decide)).1]; exact k7
  · rw [(fx _ (by clear k3 k4 k10 k11 xb mb ok; omega)).1]; exact k8 c hc
  · unfold RMF
    rw [f0 39 (by decide) (by decide), f0 40 (by decide) (by decide), f0 41 (by decide) (by decide), f0 42 (by decide) (by decide), f0 43 (by decide) (by decide), f0 44 (by decide) (by decide), f0 22 (by decide) (by decide), f0 47 (by decide) (by decide), f0 45 (by decide) (by decide), f0 50 (by decide) (by decide), (fm 32 (by decide)).1, (fm 33 (by decide)).1, (fm 36 (by decide)).1, (fm 37 (by decide)).1, (fm 38 (by decide)).1, (fm 39 (by decide)).1, (fm 40 (by decide)).1, (fm 31 (by decide)).1, (fm 34 (by decide)).2, (fm 35 (by decide)).1]
    exact k11
theorem uj_o {J : Nat → Nat → Int64} {a k x : Nat} {v : Int64} (h : x ≠ a) : pm_uj J a k v x = J x := pm_uj_n h
theorem op_3 {j : Nat} {σ τ : pST} {a : Nat → Int32} (h : InvP j σ τ) : StepP 3 j σ τ a := by
  obtain ⟨B, bf, bd, n, S, t, h⟩ := h
  rcases i32_in (N := 32) (by decide) (a 1) with hk | ⟨i, hi, e⟩
  · exact iv_same h (r := .inl 0) (ev_X7_leaf_out σ hk _) (ev_X8_leaf_out τ hk _) ⟨_, rfl⟩
  · have e1 : opX 3 σ (.inr (.inr 0) :: opA 3 a) = some ((σ.1, pm_uj σ.2 1 i (lw_lg (a 2) (a 3))), some (.inl 1)) := by
      show kX7_leaf σ [.inr (.inr 0), .inl (a 1), .inr (.inl (lw_lg (a 2) (a 3)))] = _
      rw [e]
      exact ev_X7_leaf_in σ hi _
    have e2 : opM 3 τ (.inr (.inr 0) :: opA 3 a) = some ((τ.1, pm_uj τ.2 1 i (lw_lg (a 2) (a 3))), some (.inl 1)) := by
      show kX8_leaf τ [.inr (.inr 0), .inl (a 1), .inr (.inl (lw_lg (a 2) (a 3)))] = _
      rw [e]
      exact ev_X8_leaf_in τ hi _
    refine ⟨_, _, _, e1, e2, ⟨_, rfl⟩, inv_small (bf' := fup bf i (lw_lg (a 2) (a 3))) h h.ok (Nat.le_succ_of_le h.cnt) ?_ ?_ (fun k hk => ?_) h.bd (fun x hx => ⟨rfl, uj_o (ge_ne hx (by decide))⟩) (fun x hx => ⟨rfl, uj_o (ge_ne hx (by decide))⟩) (fun y _ _ => rfl)⟩
    · exact bk_c h.xb fun x z1 z2 => ⟨rfl, uj_o (ge_ne z1 (by decide))⟩
    · exact mbk_c h.mb rfl fun x z1 z2 => ⟨rfl, uj_o (ge_ne z1 (by decide))⟩
    · show pm_uj σ.2 1 i (lw_lg (a 2) (a 3)) 1 k = fup bf i (lw_lg (a 2) (a 3)) k ∧ pm_uj τ.2 1 i (lw_lg (a 2) (a 3)) 1 k = fup bf i (lw_lg (a 2) (a 3)) k
      rw [pm_uj_a, pm_uj_a]
      by_cases q : k = i
      · subst q; rw [if_pos ⟨rfl, rfl⟩, if_pos ⟨rfl, rfl⟩, fup_s]; exact ⟨rfl, rfl⟩
      · rw [if_neg (fun z => q z.2), if_neg (fun z => q z.2), fup_n q]; exact h.lf k hk
theorem op_4 {j : Nat} {σ τ : pST} {a : Nat → Int32} (h : InvP j σ τ) : StepP 4 j σ τ a := by
  obtain ⟨B, bf, bd, n, S, t, h⟩ := h
  have hcase : (a 1 < nI 1 ∨ nI 100 < a 1) ∨ ∃ w, 1 ≤ w ∧ w ≤ 100 ∧ a 1 = nI w := by
    rcases i32_in (N := 101) (by decide) (a 1) with hk | ⟨w, hw, e⟩
    · rcases hk with hk | hk
      · exact .inl (.inl (Int32.lt_trans hk (by decide)))
      · exact .inl (.inr (Int32.lt_of_lt_of_le (by decide) hk))
    · by_cases e0 : w = 0
      · subst e0
        rw [e]
        exact .inl (.inl (by decide))
      · exact .inr ⟨w, by clear h; omega, by clear h; omega, e⟩
  rcases hcase with hk | ⟨w, h1, h4, e⟩
  · exact iv_same h (r := .inl 0) (ev_X7_bound_out σ hk) (ev_X8_bound_out τ hk) ⟨_, rfl⟩
  · have e1 : opX 4 σ (.inr (.inr 0) :: opA 4 a) = some ((pm_ui σ.1 0 4 (nI w), σ.2), some (.inl 1)) := by
      show kX7_bound σ [.inr (.inr 0), .inl (a 1)] = _
      rw [e]
      exact ev_X7_bound_in σ h1 h4
    have e2 : opM 4 τ (.inr (.inr 0) :: opA 4 a) = some ((pm_ui τ.1 0 2 (nI w), τ.2), some (.inl 1)) := by
      show kX8_bound τ [.inr (.inr 0), .inl (a 1)] = _
      rw [e]
      exact ev_X8_bound_in τ h1 h4
    refine ⟨_, _, _, e1, e2, ⟨_, rfl⟩, inv_small (bd' := w) h h.ok (Nat.le_succ_of_le h.cnt) ?_ ?_ h.lf ⟨h1, h4, ?_, ?_⟩ (fun x hx => ⟨ui_o (ge_ne hx (by decide)), rfl⟩) (fun x hx => ⟨ui_o (ge_ne hx (by decide)), rfl⟩) (fun y _ h2 => ?_)⟩
    · exact bk_c h.xb fun x z1 z2 => ⟨ui_o (ge_ne z1 (by decide)), rfl⟩
    · exact mbk_c h.mb (by show pm_ui τ.1 0 2 (nI w) 0 1 = _; rw [pm_ui_a, if_neg (by decide)]) fun x z1 z2 => ⟨ui_o (ge_ne z1 (by decide)), rfl⟩
    · show pm_ui σ.1 0 4 (nI w) 0 4 = _
      rw [pm_ui_a, if_pos ⟨rfl, rfl⟩]
    · show pm_ui τ.1 0 2 (nI w) 0 2 = _
      rw [pm_ui_a, if_pos ⟨rfl, rfl⟩]
    · show pm_ui τ.1 0 2 (nI w) 0 y = _
      rw [pm_ui_a, if_neg (fun z => h2 z.2)]
theorem op_2 {j : Nat} {σ τ : pST} {a : Nat → Int32} (h : InvP j σ τ) : StepP 2 j σ τ a := by
  obtain ⟨B, bf, bd, n, S, t, h⟩ := h
  have e1 := ev_X7_clear σ
  rw [h.xb.n] at e1
  have e2 := ev_X8_clear τ
  rw [h.mb.n] at e2
  refine ⟨_, _, _, e1, e2, ⟨_, rfl⟩, inv_small (B' := (mkBkS (0) B.ac B.kd B.lf B.rt B.vl)) (bd' := bd) h ⟨Nat.zero_le _, h.ok.ac, h.ok.kd⟩ (Nat.zero_le _) ?_ ?_ h.lf ?_ (fun x hx => ⟨ui_o (ge_ne hx (by decide)), rfl⟩) (fun x hx => ⟨ui_o (ge_ne hx (by decide)), rfl⟩) (fun y h1 _ => ?_)⟩
  · obtain ⟨_, q2, q3⟩ := h.xb
    refine ⟨?_, fun c hc => ?_, fun i hi => ?_⟩
    · show pm_ui σ.1 2 0 0 2 0 = _
      rw [pm_ui_a, if_pos ⟨rfl, rfl⟩]
      rfl
    · show pm_ui σ.1 2 0 0 3 c = _
      rw [ui_o (by decide)]
      exact q2 c hc
    · show pm_ui σ.1 2 0 0 4 i = _ ∧ pm_ui σ.1 2 0 0 5 i = _ ∧ pm_ui σ.1 2 0 0 6 i = _ ∧ _
      rw [ui_o (by decide), ui_o (by decide), ui_o (by decide)]
      exact q3 i hi
  · obtain ⟨_, q2, q3⟩ := h.mb
    refine ⟨?_, fun c hc => ?_, fun i hi => ?_⟩
    · show pm_ui τ.1 0 1 0 0 1 = _
      rw [pm_ui_a, if_pos ⟨rfl, rfl⟩]
      rfl
    · show pm_ui τ.1 0 1 0 2 c = _
      rw [ui_o (by decide)]
      exact q2 c hc
    · show pm_ui τ.1 0 1 0 3 i = _ ∧ pm_ui τ.1 0 1 0 4 i = _ ∧ pm_ui τ.1 0 1 0 5 i = _ ∧ _
      rw [ui_o (by decide), ui_o (by decide), ui_o (by decide)]
      exact q3 i hi
  · obtain ⟨b1, b2, b3, b4⟩ := h.bd
    refine ⟨b1, b2, ?_, ?_⟩
    · show pm_ui σ.1 2 0 0 0 4 = _
      rw [ui_o (by decide)]
      exact b3
    · show pm_ui τ.1 0 1 0 0 2 = _
      rw [pm_ui_a, if_neg (by decide)]
      exact b4
  · show pm_ui τ.1 0 1 0 0 y = _
    rw [pm_ui_a, if_neg (fun z => h1 z.2)]
