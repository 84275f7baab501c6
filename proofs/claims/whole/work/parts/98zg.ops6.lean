/-! ===== act, both sides ===== -/
theorem ui_s {f : Nat → Nat → Int32} {a k : Nat} {v : Int32} : pm_ui f a k v a k = v := by rw [pm_ui_a, if_pos ⟨rfl, rfl⟩]
theorem ui_k {f : Nat → Nat → Int32} {a k i : Nat} {v : Int32} (h : i ≠ k) : pm_ui f a k v a i = f a i := by rw [pm_ui_a, if_neg (fun z => h z.2)]
theorem uj_s {f : Nat → Nat → Int64} {a k : Nat} {v : Int64} : pm_uj f a k v a k = v := by rw [pm_uj_a, if_pos ⟨rfl, rfl⟩]
theorem uj_k {f : Nat → Nat → Int64} {a k i : Nat} {v : Int64} (h : i ≠ k) : pm_uj f a k v a i = f a i := by rw [pm_uj_a, if_neg (fun z => h z.2)]
theorem op_1 {j : Nat} {σ τ : pST} {a : Nat → Int32} (h : InvP j σ τ) : StepP 1 j σ τ a := by
  obtain ⟨B, bf, bd, n, S, t, h⟩ := h
  generalize hv : lw_lg (a 5) (a 6) = v
  generalize hk : a 2 = k
  generalize hr : a 3 = r
  generalize hs : a 4 = s
  have hA : opA 1 a = [.inl (a 1), .inl k, .inl r, .inl s, .inr (.inl v)] := by rw [← hv, ← hk, ← hr, ← hs]; rfl
  have hn := h.ok.n
  by_cases q : oaP k r s v
  · rcases i32_in (N := B.n) (by clear h; omega) (a 1) with hc | ⟨ci, hci, ec⟩
    · refine iv_same h (r := .inl (-1)) ?_ ?_ ⟨_, rfl⟩
      · rw [hA]
        exact ev_X7_act_ok σ _ _ _ _ _ q (ev_X2_addAct_out σ h.xb.n hc _ _ _ _)
      · rw [hA]
        exact ev_X8_act_out τ h.mb.n hc _ _ _ _
    · have hci2 : ci < 16 := by clear h; omega
      have hac := h.ok.ac ci hci2
      have x1 := ev_X2_addAct_in σ hn h.xb.n hci (h.xb.ac ci hci2) hac k r s v
      have x2 := ev_X8_act_in τ hn h.mb.n hci (h.mb.ac ci hci2) hac k r s v
      by_cases qa : B.ac ci < 12
      · rw [if_pos qa] at x1
        rw [if_pos ⟨qa, oa_om.mp q⟩] at x2
        have x3 := ev_X7_act_ok σ _ _ _ _ _ q x1
        rw [← ec] at x2 x3
        rw [← hA] at x2 x3
        obtain ⟨q1, q2, ⟨q3, q4⟩, q5, q6⟩ := q
        obtain ⟨K, hK, eK⟩ := i32_le (N := 8) (by decide) q1 q2
        obtain ⟨R, hR, eR⟩ := i32_le (N := 3) (by decide) q3 (fun z => q4 (i3_4.mpr z))
        have hS : ∃ T, T ≤ 3 ∧ s = nI T := by
          by_cases e : hsP k
          · rw [if_pos e] at q5
            exact i32_le (N := 3) (by decide) q5.1 (fun z => q5.2 (i3_4.mpr z))
          · rw [if_neg e] at q5
            exact ⟨0, by decide, q5⟩
        obtain ⟨T, hT, eT⟩ := hS
        have hV : K = 6 → ∃ w, w ≤ 12 ∧ v.toInt32 = nI w := fun e => by
          have e6 : k = nI 6 := by rw [eK, e]
          have q7 := q6 (by rw [e6]; decide)
          rw [if_pos e6] at q7
          exact act_v q7.1 q7.2
        have eI : ci * 12 + B.ac ci = 12 * ci + B.ac ci := by rw [Nat.mul_comm]
        rw [eI] at x3
        obtain ⟨b1, b2, b3, b4⟩ := h.bd
        have hI : 12 * ci + B.ac ci < 192 := by clear h x2 x3; omega
        generalize eP : 12 * ci + B.ac ci = P at x2 x3 hI
        refine ⟨_, _, _, x3, x2, ⟨_, rfl⟩, inv_small (B' := (mkBkS B.n (fup B.ac ci (B.ac ci + 1)) (fup B.kd P K) (fup B.lf P R) (fup B.rt P T) (fup B.vl P v))) (bf' := bf) (bd' := bd) h ⟨hn, fun c hc => ?_, fun i hi => ?_⟩ ?_ ?_ ?_ (fun y hy => ⟨?_, ?_⟩) ⟨b1, b2, ?_, ?_⟩ (fun x hx => ⟨?_, ?_⟩) (fun x hx => ⟨?_, ?_⟩) (fun y h1 _ => ?_)⟩
        · show fup B.ac ci (B.ac ci + 1) c ≤ 12
          by_cases e : c = ci
          · rw [e, fup_s]; exact qa
          · rw [fup_n e]; exact h.ok.ac c hc
        · show fup B.kd P K i ≤ 8 ∧ fup B.lf P R i < 4 ∧ fup B.rt P T i < 4 ∧ (fup B.kd P K i = 6 → ∃ q, q ≤ 12 ∧ (fup B.vl P v i).toInt32 = nI q)
          by_cases e : i = P
          · rw [e, fup_s, fup_s, fup_s, fup_s]; exact ⟨hK, Nat.lt_succ_of_le hR, Nat.lt_succ_of_le hT, hV⟩
          · rw [fup_n e, fup_n e, fup_n e, fup_n e]; exact h.ok.kd i hi
        · show B.n + sumN (fup B.ac ci (B.ac ci + 1)) B.n ≤ j + 1
          have z1 := sumN_fup (f := B.ac) (v := B.ac ci + 1) hci
          have z2 := h.cnt
          clear h x2 x3
          omega
        · obtain ⟨p1, p2, p3⟩ := h.xb
          refine ⟨?_, fun c hc => ?_, fun i hi => ?_⟩
          · show pm_ui (pm_ui (pm_ui (pm_ui σ.1 4 P k) 5 P r) 6 P s) 3 ci (nI (B.ac ci + 1)) 2 0 = _
            rw [ui_o (by decide), ui_o (by decide), ui_o (by decide), ui_o (by decide)]
            exact p1
          · show pm_ui (pm_ui (pm_ui (pm_ui σ.1 4 P k) 5 P r) 6 P s) 3 ci (nI (B.ac ci + 1)) 3 c = nI (fup B.ac ci (B.ac ci + 1) c)
            rw [pm_ui_a]
            by_cases e : c = ci
            · rw [if_pos ⟨rfl, e⟩, e, fup_s]
            · rw [if_neg (fun z => e z.2), fup_n e, ui_o (by decide), ui_o (by decide), ui_o (by decide)]; exact p2 c hc
          · show pm_ui (pm_ui (pm_ui (pm_ui σ.1 4 P k) 5 P r) 6 P s) 3 ci (nI (B.ac ci + 1)) 4 i = nI (fup B.kd P K i) ∧ pm_ui (pm_ui (pm_ui (pm_ui σ.1 4 P k) 5 P r) 6 P s) 3 ci (nI (B.ac ci + 1)) 5 i = nI (fup B.lf P R i) ∧ pm_ui (pm_ui (pm_ui (pm_ui σ.1 4 P k) 5 P r) 6 P s) 3 ci (nI (B.ac ci + 1)) 6 i = nI (fup B.rt P T i) ∧ pm_uj σ.2 7 P v 7 i = fup B.vl P v i
            rw [ui_o (x := 4) (by decide), ui_o (x := 4) (by decide), ui_o (x := 4) (by decide), ui_o (x := 5) (by decide), ui_o (x := 5) (by decide), ui_o (x := 6) (by decide)]
            by_cases e : i = P
            · rw [e, ui_s, ui_s, ui_s, uj_s, fup_s, fup_s, fup_s, fup_s]; exact ⟨eK, eR, eT, rfl⟩
            · rw [ui_k e, ui_k e, ui_k e, uj_k e, fup_n e, fup_n e, fup_n e, fup_n e, ui_o (by decide), ui_o (by decide), ui_o (by decide)]; exact p3 i hi
        · obtain ⟨p1, p2, p3⟩ := h.mb
          refine ⟨?_, fun c hc => ?_, fun i hi => ?_⟩
          · show pm_ui (pm_ui (pm_ui (pm_ui τ.1 3 P k) 4 P r) 5 P s) 2 ci (nI (B.ac ci + 1)) 0 1 = _
            rw [ui_o (by decide), ui_o (by decide), ui_o (by decide), ui_o (by decide)]
            exact p1
          · show pm_ui (pm_ui (pm_ui (pm_ui τ.1 3 P k) 4 P r) 5 P s) 2 ci (nI (B.ac ci + 1)) 2 c = nI (fup B.ac ci (B.ac ci + 1) c)
            rw [pm_ui_a]
            by_cases e : c = ci
            · rw [if_pos ⟨rfl, e⟩, e, fup_s]
            · rw [if_neg (fun z => e z.2), fup_n e, ui_o (by decide), ui_o (by decide), ui_o (by decide)]; exact p2 c hc
          · show pm_ui (pm_ui (pm_ui (pm_ui τ.1 3 P k) 4 P r) 5 P s) 2 ci (nI (B.ac ci + 1)) 3 i = nI (fup B.kd P K i) ∧ pm_ui (pm_ui (pm_ui (pm_ui τ.1 3 P k) 4 P r) 5 P s) 2 ci (nI (B.ac ci + 1)) 4 i = nI (fup B.lf P R i) ∧ pm_ui (pm_ui (pm_ui (pm_ui τ.1 3 P k) 4 P r) 5 P s) 2 ci (nI (B.ac ci + 1)) 5 i = nI (fup B.rt P T i) ∧ pm_uj τ.2 6 P v 6 i = fup B.vl P v i
            rw [ui_o (x := 3) (by decide), ui_o (x := 3) (by decide), ui_o (x := 3) (by decide), ui_o (x := 4) (by decide), ui_o (x := 4) (by decide), ui_o (x := 5) (by decide)]
            by_cases e : i = P
            · rw [e, ui_s, ui_s, ui_s, uj_s, fup_s, fup_s, fup_s, fup_s]; exact ⟨eK, eR, eT, rfl⟩
            · rw [ui_k e, ui_k e, ui_k e, uj_k e, fup_n e, fup_n e, fup_n e, fup_n e, ui_o (by decide), ui_o (by decide), ui_o (by decide)]; exact p3 i hi
        · show pm_uj σ.2 7 P v 1 y = _
          rw [uj_o (by decide)]; exact (h.lf y hy).1
        · show pm_uj τ.2 6 P v 1 y = _
          rw [uj_o (by decide)]; exact (h.lf y hy).2
        · show pm_ui (pm_ui (pm_ui (pm_ui σ.1 4 P k) 5 P r) 6 P s) 3 ci (nI (B.ac ci + 1)) 0 4 = _
          rw [ui_o (by decide), ui_o (by decide), ui_o (by decide), ui_o (by decide)]
          exact b3
        · show pm_ui (pm_ui (pm_ui (pm_ui τ.1 3 P k) 4 P r) 5 P s) 2 ci (nI (B.ac ci + 1)) 0 2 = _
          rw [ui_o (by decide), ui_o (by decide), ui_o (by decide), ui_o (by decide)]
          exact b4
        · show pm_ui (pm_ui (pm_ui (pm_ui σ.1 4 P k) 5 P r) 6 P s) 3 ci (nI (B.ac ci + 1)) x = _
          rw [ui_o (ge_ne hx (by decide)), ui_o (ge_ne hx (by decide)), ui_o (ge_ne hx (by decide)), ui_o (ge_ne hx (by decide))]
        · exact uj_o (ge_ne hx (by decide))
        · show pm_ui (pm_ui (pm_ui (pm_ui τ.1 3 P k) 4 P r) 5 P s) 2 ci (nI (B.ac ci + 1)) x = _
          rw [ui_o (ge_ne hx (by decide)), ui_o (ge_ne hx (by decide)), ui_o (ge_ne hx (by decide)), ui_o (ge_ne hx (by decide))]
        · exact uj_o (ge_ne hx (by decide))
        · show pm_ui (pm_ui (pm_ui (pm_ui τ.1 3 P k) 4 P r) 5 P s) 2 ci (nI (B.ac ci + 1)) 0 y = _
          rw [ui_o (by decide), ui_o (by decide), ui_o (by decide), ui_o (by decide)]
      · rw [if_neg qa] at x1
        rw [if_neg (fun z => qa z.1)] at x2
        have x3 := ev_X7_act_ok σ _ _ _ _ _ q x1
        rw [← ec] at x2 x3
        rw [← hA] at x2 x3
        exact iv_same h (r := .inl (-1)) x3 x2 ⟨_, rfl⟩
  · refine iv_same h (r := .inl (-1)) ?_ ?_ ⟨_, rfl⟩
    · rw [hA]
      exact ev_X7_act_no σ _ _ _ _ _ q
    · rw [hA]
      rcases i32_in (N := B.n) (by clear h; omega) (a 1) with hc | ⟨ci, hci, ec⟩
      · exact ev_X8_act_out τ h.mb.n hc _ _ _ _
      · have hci2 : ci < 16 := by clear h; omega
        have x2 := ev_X8_act_in τ hn h.mb.n hci (h.mb.ac ci hci2) (h.ok.ac ci hci2) k r s v
        rw [if_neg (fun z => q (oa_om.mpr z.2)), ← ec] at x2
        exact x2
