/-! ===== of, event, conflict, told ===== -/
theorem toInt_out {w : Int32} {N : Nat} (hN : N < 1000) (h : w < 0 ∨ nI (N + 1) ≤ w) : w.toInt < 0 ∨ (N : Int) < w.toInt := by
  rcases h with h | h
  · rw [Int32.lt_iff_toInt_lt] at h
    exact .inl h
  · rw [Int32.le_iff_toInt_le] at h
    have e : (nI (N + 1)).toInt = ((N + 1 : Nat) : Int) := by
      unfold nI
      exact Int32.toInt_ofNat_of_lt (by omega)
    rw [e] at h
    exact .inr (by omega)
theorem out_gt {w : Int32} {N : Nat} (hN : N < 1000) (h : w < 0 ∨ nI (N + 1) ≤ w) : w < 0 ∨ nI N < w := by
  rcases h with h | h
  · exact .inl h
  · exact .inr (Int32.lt_of_lt_of_le ((nI_ltI (by omega) (by omega)).mpr (Nat.lt_succ_self N)) h)
theorem op_10 {j : Nat} {σ τ : pST} {a : Nat → Int32} (h : InvP j σ τ) : StepP 10 j σ τ a := by
  obtain ⟨B, bf, bd, n, S, t, h⟩ := h
  have hn := h.n
  have x2 := h.rf.n
  have m39 := h.mf.1.1
  have key : ∃ v, kX1_tellCall σ [.inr (.inr 9), .inl (a 1), .inl (a 2)] = some (σ, some (.inl v)) ∧ kX8_of τ [.inr (.inr 0), .inl (a 1), .inl (a 2)] = some (τ, some (.inl v)) := by
    rcases i32_in (N := n) (by clear h; omega) (a 1) with hk | ⟨c, hc, e⟩
    · exact ⟨-1, ev_X1_tellCall_o1 σ x2 hk, ev_X8_of_o1 τ m39 hk⟩
    · rw [e]
      obtain ⟨⟨s0, bg, da, am⟩, hb, _⟩ := h.rf.a c hc
      obtain ⟨am1, am2⟩ := am hb
      obtain ⟨o1, o2, o3, o4, o5, o6⟩ := h.mf.2.2.1 c hc
      have hg := h.rf.g c hc
      have hc16 : c < 16 := Nat.lt_of_lt_of_le hc hn
      rcases i32_in (N := 6) (by decide) (a 2) with hw | ⟨w, hw, e2⟩
      · exact ⟨-1, ev_X1_tellCall_o2 σ x2 hn hc (toInt_out (N := 5) (by decide) hw), ev_X8_of_o2 τ m39 hn hc (out_gt (N := 5) (by decide) hw)⟩
      · rw [e2]
        match w, hw with
        | 0, _ => exact ⟨nI (S.bg c), by rw [ev_X1_tellCall_0 σ x2 hn hc, bg], by rw [ev_X8_of_0 τ m39 hn hc, o5]⟩
        | 1, _ => exact ⟨nI (S.dd c), by rw [ev_X1_tellCall_1 σ x2 hn hc, am2], by rw [ev_X8_of_1 τ m39 hn hc, o4]⟩
        | 2, _ => exact ⟨cond (S.am c).fl 1 0, ev_X1_tellCall_2 σ x2 hn hc am1.fl, ev_X8_of_2 τ m39 hn hc o1⟩
        | 3, _ => exact ⟨nI (S.am c).kn, by rw [ev_X1_tellCall_3 σ x2 hn hc, am1.kn], by rw [ev_X8_of_3 τ m39 hn hc, o2]⟩
        | 4, _ => exact ⟨nI (wcA (S.am c) 32), ev_X1_tellCall_4 σ x2 hn hc (rx_count hc16 am1), by rw [ev_X8_of_4 τ m39 hn hc, o3]⟩
        | 5, _ => exact ⟨nI (grpL S.am n 32 c), by rw [ev_X1_tellCall_5 σ x2 hn hc, hg], by rw [ev_X8_of_5 τ m39 hn hc, o6]⟩
  obtain ⟨v, e1, e2⟩ := key
  exact iv_same h (r := .inl v) (ev_X7_of σ e1) e2 ⟨_, rfl⟩
theorem off_find {E : Nat → Nat} {i : Nat} : ∀ n, i < sumN E n → ∃ d, d < n ∧ sumN E d ≤ i ∧ i < sumN E d + E d
  | 0, h => absurd h (Nat.not_lt_zero _)
  | n + 1, h => by
    have h' : i < sumN E n + E n := h
    by_cases e : i < sumN E n
    · obtain ⟨d, h1, h2⟩ := off_find n e
      exact ⟨d, by omega, h2⟩
    · exact ⟨n, Nat.lt_succ_self n, by omega, h'⟩
theorem op_9 {j : Nat} {σ τ : pST} {a : Nat → Int32} (h : InvP j σ τ) : StepP 9 j σ τ a := by
  obtain ⟨B, bf, bd, n, S, t, h⟩ := h
  have hn := h.n
  have x2 := h.rf.n
  have m50 := h.mf.2.2.2.1
  have hok : ∀ d, d < n → AtOK d (S.am d) := fun d hd => (h.rf.a d hd).2.2
  have hm : sumN (fun d => enE (S.am d)) n ≤ 192 := by
    have q := en_le hok n (Nat.le_refl _)
    clear h hok
    omega
  have hE : ∀ d, d < n → σ.1 (16 + 8 * d) 6 = nI ((fun d => enE (S.am d)) d) ∧ (fun d => enE (S.am d)) d ≤ 12 := fun d hd => by
    refine ⟨((h.rf.a d hd).1.am (h.rf.a d hd).2.1).1.en, ?_⟩
    have q := (hok d hd).e12
    show enE (S.am d) ≤ 12
    unfold enE
    cases (S.am d).fl with
    | true => exact Nat.zero_le _
    | false => exact q
  have key : ∃ v, kX1_tellEvent σ [.inr (.inr 9), .inl (a 1), .inl (a 2)] = some (σ, some (.inr (.inl v))) ∧ kX8_event τ [.inr (.inr 0), .inl (a 1), .inl (a 2)] = some (τ, some (.inr (.inl v))) := by
    rcases i32_in (N := 2147483647) (by decide) (a 1) with hk | ⟨i, hi, e⟩
    · rcases hk with hk | hk
      · exact ⟨0, ev_X1_tellEvent_o σ (.inl hk), ev_X8_event_o1 τ m50 (.inl hk)⟩
      · have hb : nI (sumN (fun d => enE (S.am d)) n) ≤ a 1 := Int32.le_trans ((nI_leI (by clear h hok hE; omega) (by decide)).mpr (by clear h hok hE; omega)) hk
        rcases i32_in (N := 2) (by decide) (a 2) with hw | ⟨w, hw, e2⟩
        · exact ⟨0, ev_X1_tellEvent_o σ (.inr (out_gt (N := 1) (by decide) hw)), ev_X8_event_o1 τ m50 (.inr hb)⟩
        · have e3 : a 1 = nI 2147483647 := by
            refine Int32.le_antisymm ?_ hk
            rw [Int32.le_iff_toInt_le]
            have := Int32.toInt_lt (a 1)
            have e4 : (nI 2147483647).toInt = 2147483647 := by decide
            rw [e4]
            clear h hok hE
            omega
          rw [e2]
          rw [e3] at hb ⊢
          match w, hw with
          | 0, _ => exact ⟨0, ev_X1_tellEvent_0n σ x2 hn hE (by decide) (by clear h hok hE; omega), ev_X8_event_o1 τ m50 (.inr hb)⟩
          | 1, _ => exact ⟨0, ev_X1_tellEvent_1n σ x2 hn hE (by decide) (by clear h hok hE; omega), ev_X8_event_o1 τ m50 (.inr hb)⟩
    · rw [e]
      rcases i32_in (N := 2) (by decide) (a 2) with hw | ⟨w, hw, e2⟩
      · by_cases hlt : i < sumN (fun d => enE (S.am d)) n
        · exact ⟨0, ev_X1_tellEvent_o σ (.inr (out_gt (N := 1) (by decide) hw)), ev_X8_event_o2 τ m50 hm hlt (out_gt (N := 1) (by decide) hw)⟩
        · exact ⟨0, ev_X1_tellEvent_o σ (.inr (out_gt (N := 1) (by decide) hw)), ev_X8_event_o1 τ m50 (.inr ((nI_leI (by clear h hok hE; omega) (by clear h hok hE; omega)).mpr (Nat.le_of_not_lt hlt)))⟩
      · rw [e2]
        by_cases hlt : i < sumN (fun d => enE (S.am d)) n
        · obtain ⟨d, d1, d2, d3⟩ := off_find n hlt
          have hA := ((h.rf.a d d1).1.am (h.rf.a d d1).2.1).1
          obtain ⟨v1, v2⟩ := h.mf.2.2.2.2 d (i - sumN (fun d => enE (S.am d)) d) d1 (by clear h hok hE hA; omega)
          rw [show sumN (fun d => enE (S.am d)) d + (i - sumN (fun d => enE (S.am d)) d) = i by clear h hok hE hA v1 v2; omega] at v1 v2
          have hle : i - sumN (fun d => enE (S.am d)) d < (S.am d).en := by
            have q : enE (S.am d) ≤ (S.am d).en := by unfold enE; cases (S.am d).fl <;> simp
            have d3' : i < sumN (fun d => enE (S.am d)) d + enE (S.am d) := d3
            clear h hok hE hA v1 v2
            omega
          have hv := hA.ev _ hle
          match w, hw with
          | 0, _ => exact ⟨_, ev_X1_tellEvent_0 σ x2 hn hE (by clear h hok hE hA; omega) d1 d2 d3, by rw [ev_X8_event_0 τ m50 hm hlt, v1, ← hv]⟩
          | 1, _ => exact ⟨_, ev_X1_tellEvent_1 σ x2 hn hE (by clear h hok hE hA; omega) d1 d2 d3, by rw [ev_X8_event_1 τ m50 hm hlt, v2]⟩
        · have hb := (nI_leI (a := sumN (fun d => enE (S.am d)) n) (b := i) (by clear h hok hE; omega) (by clear h hok hE; omega)).mpr (Nat.le_of_not_lt hlt)
          match w, hw with
          | 0, _ => exact ⟨0, ev_X1_tellEvent_0n σ x2 hn hE (by clear h hok hE; omega) (Nat.le_of_not_lt hlt), ev_X8_event_o1 τ m50 (.inr hb)⟩
          | 1, _ => exact ⟨0, ev_X1_tellEvent_1n σ x2 hn hE (by clear h hok hE; omega) (Nat.le_of_not_lt hlt), ev_X8_event_o1 τ m50 (.inr hb)⟩
  obtain ⟨v, e1, e2⟩ := key
  exact iv_same h (r := .inr (.inl v)) (ev_X7_event σ e1) e2 ⟨_, rfl⟩
theorem op_13 {j : Nat} {σ τ : pST} {a : Nat → Int32} (h : InvP j σ τ) : StepP 13 j σ τ a := by
  obtain ⟨B, bf, bd, n, S, t, h⟩ := h
  have hn := h.n
  have x2 := h.rf.n
  obtain ⟨m1, m2, m3, m4, m5, m6, m7, m8, m9⟩ := h.mf.1
  have key : ∃ v, kX7_told σ [.inr (.inr 0), .inl (a 1)] = some (σ, some (.inl v)) ∧ kX8_told τ [.inr (.inr 0), .inl (a 1)] = some (τ, some (.inl v)) := by
    rcases i32_in (N := 8) (by decide) (a 1) with hk | ⟨c, hc, e⟩
    · exact ⟨-1, ev_X7_told_out σ (toInt_out (N := 7) (by decide) hk), ev_X8_told_out τ (toInt_out (N := 7) (by decide) hk)⟩
    · rw [e]
      match c, hc with
      | 0, _ => exact ⟨nI t, by rw [ev_X7_told_0, h.rf.t], by rw [ev_X8_told_0, m2]⟩
      | 1, _ => exact ⟨if (cond S.fe (1 : Int32) 0) = 0 then 0 else 1, by rw [ev_X7_told_1, h.rf.fe], by rw [ev_X8_told_1, m3]⟩
      | 2, _ => exact ⟨nI S.lk, by rw [ev_X7_told_2, h.rf.lk], by rw [ev_X8_told_2, m4]⟩
      | 3, _ => exact ⟨nI S.ud, by rw [ev_X7_told_3, h.rf.ud], by rw [ev_X8_told_3, m5]⟩
      | 4, _ => exact ⟨nI S.gu, by rw [ev_X7_told_4, h.rf.gu], by rw [ev_X8_told_4, m6]⟩
      | 5, _ => exact ⟨nI S.al, by rw [ev_X7_told_5 σ hn x2, sumA_n (g := S.da) n (fun d hd => (h.rf.a d hd).1.da), h.al], by rw [ev_X8_told_5, m7]⟩
      | 6, _ => exact ⟨nI (cntL (grpL S.am n 32) n), by rw [ev_X7_told_6 σ hn x2, cntG_n (L := grpL S.am n 32) n hn (fun d hd => ⟨h.rf.g d hd, grpL_le 32 d⟩)], by rw [ev_X8_told_6, m9]⟩
      | 7, _ => exact ⟨nI n, by rw [ev_X7_told_7, x2], by rw [ev_X8_told_7, m1]⟩
  obtain ⟨v, e1, e2⟩ := key
  exact iv_same h (r := .inl v) e1 e2 ⟨_, rfl⟩
