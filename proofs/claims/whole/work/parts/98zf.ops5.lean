/-! ===== act ===== -/
theorem i3_4 {r : Int32} : nI 4 ≤ r ↔ nI 3 < r := by
  rw [Int32.le_iff_toInt_le, Int32.lt_iff_toInt_lt]
  have e4 : (nI 4).toInt = 4 := by decide
  have e3 : (nI 3).toInt = 3 := by decide
  rw [e4, e3]; omega
theorem imp_or' {a : Prop} {k : Int32} : (nI 2 < k → a) ↔ (k ≤ nI 2 ∨ a) := by
  constructor
  · intro h
    by_cases q : nI 2 < k
    · exact .inr (h q)
    · exact .inl (Int32.not_lt.mp q)
  · rintro (h | h) q
    · exact absurd q (Int32.not_lt.mpr h)
    · exact h
theorem oa_om {k r s : Int32} {v : Int64} : oaP k r s v ↔ omP k r s v := by
  unfold oaP omP avP rkP
  rw [imp_or', i3_4, i3_4]
theorem i32_le {N : Nat} (hN : N < 2 ^ 31 - 1) {k : Int32} (h0 : ¬ k < 0) (h1 : ¬ nI N < k) : ∃ K, K ≤ N ∧ k = nI K := by
  obtain ⟨K, hK, e⟩ := (i32_in (N := N + 1) (by omega) k).resolve_left (fun z => z.elim h0 fun z => h1 (by
    rw [Int32.lt_iff_toInt_lt]
    rw [Int32.le_iff_toInt_le] at z
    have a1 := nI_toInt (n := N + 1) (by omega)
    have a2 := nI_toInt (n := N) (by omega)
    omega))
  exact ⟨K, by omega, e⟩
theorem act_v {v : Int64} (h1 : ¬ lg_cmp v 1 < 0) (h2 : ¬ 0 < lg_cmp v 12) : ∃ q, q ≤ 12 ∧ v.toInt32 = nI q := by
  have b1 : 1 ≤ v.toInt := by
    unfold lg_cmp at h1
    by_cases q : v > 1
    · have := Int64.lt_iff_toInt_lt.mp q
      have e : (1 : Int64).toInt = 1 := by decide
      omega
    · rw [if_neg q] at h1
      by_cases q2 : v = 1
      · rw [q2]; decide
      · rw [if_neg q2] at h1
        exact absurd (by decide) h1
  have b2 : v.toInt ≤ 12 := by
    unfold lg_cmp at h2
    by_cases q : v > 12
    · rw [if_pos q] at h2
      exact absurd (by decide) h2
    · have := Int64.le_iff_toInt_le.mp (Int64.not_lt.mp q)
      have e : (12 : Int64).toInt = 12 := by decide
      omega
  have e : v.toInt32.toInt = v.toInt := by
    rw [Int64.toInt_toInt32]
    rw [Int.bmod_def]
    omega
  refine i32_le (by decide) ?_ ?_
  · rw [Int32.lt_iff_toInt_lt]
    have : (0 : Int32).toInt = 0 := by decide
    omega
  · rw [Int32.lt_iff_toInt_lt]
    have : (nI 12).toInt = 12 := by decide
    omega
