/-! ===== call ===== -/
theorem op_0 {j : Nat} {σ τ : pST} {a : Nat → Int32} (h : InvP j σ τ) : StepP 0 j σ τ a := by
  obtain ⟨B, bf, bd, n, S, t, h⟩ := h
  have hn := h.ok.n
  have e2 := ev_X8_call τ hn h.mb.n
  by_cases q : B.n < 16
  · rw [if_pos q] at e2
    have e1 := ev_X7_call σ hn h.xb.n (x := (σ, none)) (r := nI B.n) (τ := (pm_ui (pm_ui σ.1 3 B.n 0) 2 0 (nI (B.n + 1)), σ.2)) (if_pos q)
    obtain ⟨b1, b2, b3, b4⟩ := h.bd
    refine ⟨_, _, _, e1, e2, ⟨_, rfl⟩, inv_small (B' := (mkBkS (B.n + 1) (fup B.ac B.n 0) B.kd B.lf B.rt B.vl)) (bd' := bd) h ⟨q, fun c hc => ?_, h.ok.kd⟩ ?_ ?_ ?_ h.lf ⟨b1, b2, ?_, ?_⟩ (fun x hx => ⟨?_, rfl⟩) (fun x hx => ⟨?_, rfl⟩) (fun y h1 _ => ?_)⟩
    · show fup B.ac B.n 0 c ≤ 12
      by_cases e : c = B.n
      · rw [e, fup_s]; exact Nat.zero_le _
      · rw [fup_n e]; exact h.ok.ac c hc
    · show B.n + 1 + (sumN (fup B.ac B.n 0) B.n + fup B.ac B.n 0 B.n) ≤ j + 1
      have q1 : sumN (fup B.ac B.n 0) B.n = sumN B.ac B.n := sumN_congr fun i hi => fup_n (Nat.ne_of_lt hi)
      have q2 := h.cnt
      rw [fup_s, q1]
      clear h
      omega
    · obtain ⟨_, q2, q3⟩ := h.xb
      refine ⟨?_, fun c hc => ?_, fun i hi => ?_⟩
      · show pm_ui (pm_ui σ.1 3 B.n 0) 2 0 (nI (B.n + 1)) 2 0 = _
        rw [pm_ui_a, if_pos ⟨rfl, rfl⟩]
        rfl
      · show pm_ui (pm_ui σ.1 3 B.n 0) 2 0 (nI (B.n + 1)) 3 c = nI (fup B.ac B.n 0 c)
        rw [ui_o (by decide), pm_ui_a]
        by_cases e : c = B.n
        · rw [if_pos ⟨rfl, e⟩, e, fup_s]; rfl
        · rw [if_neg (fun z => e z.2), fup_n e]; exact q2 c hc
      · show pm_ui (pm_ui σ.1 3 B.n 0) 2 0 (nI (B.n + 1)) 4 i = _ ∧ pm_ui (pm_ui σ.1 3 B.n 0) 2 0 (nI (B.n + 1)) 5 i = _ ∧ pm_ui (pm_ui σ.1 3 B.n 0) 2 0 (nI (B.n + 1)) 6 i = _ ∧ _
        rw [ui_o (by decide), ui_o (by decide), ui_o (by decide), ui_o (by decide), ui_o (by decide), ui_o (by decide)]
        exact q3 i hi
    · obtain ⟨_, q2, q3⟩ := h.mb
      refine ⟨?_, fun c hc => ?_, fun i hi => ?_⟩
      · show pm_ui (pm_ui τ.1 2 B.n 0) 0 1 (nI (B.n + 1)) 0 1 = _
        rw [pm_ui_a, if_pos ⟨rfl, rfl⟩]
        rfl
      · show pm_ui (pm_ui τ.1 2 B.n 0) 0 1 (nI (B.n + 1)) 2 c = nI (fup B.ac B.n 0 c)
        rw [ui_o (by decide), pm_ui_a]
        by_cases e : c = B.n
        · rw [if_pos ⟨rfl, e⟩, e, fup_s]; rfl
        · rw [if_neg (fun z => e z.2), fup_n e]; exact q2 c hc
      · show pm_ui (pm_ui τ.1 2 B.n 0) 0 1 (nI (B.n + 1)) 3 i = _ ∧ pm_ui (pm_ui τ.1 2 B.n 0) 0 1 (nI (B.n + 1)) 4 i = _ ∧ pm_ui (pm_ui τ.1 2 B.n 0) 0 1 (nI (B.n + 1)) 5 i = _ ∧ _
        rw [ui_o (by decide), ui_o (by decide), ui_o (by decide), ui_o (by decide), ui_o (by decide), ui_o (by decide)]
        exact q3 i hi
    · show pm_ui (pm_ui σ.1 3 B.n 0) 2 0 (nI (B.n + 1)) 0 4 = _
      rw [ui_o (by decide), ui_o (by decide)]
      exact b3
    · show pm_ui (pm_ui τ.1 2 B.n 0) 0 1 (nI (B.n + 1)) 0 2 = _
      rw [pm_ui_a, if_neg (by decide), ui_o (by decide)]
      exact b4
    · show pm_ui (pm_ui σ.1 3 B.n 0) 2 0 (nI (B.n + 1)) x = _
      rw [ui_o (ge_ne hx (by decide)), ui_o (ge_ne hx (by decide))]
    · show pm_ui (pm_ui τ.1 2 B.n 0) 0 1 (nI (B.n + 1)) x = _
      rw [ui_o (ge_ne hx (by decide)), ui_o (ge_ne hx (by decide))]
    · show pm_ui (pm_ui τ.1 2 B.n 0) 0 1 (nI (B.n + 1)) 0 y = _
      rw [pm_ui_a, if_neg (fun z => h1 z.2), ui_o (by decide)]
  · rw [if_neg q] at e2
    have e1 := ev_X7_call σ hn h.xb.n (x := (σ, none)) (r := -1) (τ := σ) (if_neg q)
    exact iv_same h (r := .inl (-1)) e1 e2 ⟨_, rfl⟩
