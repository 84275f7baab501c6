/-! ===== what every op keeps ===== -/
theorem i32_in {N : Nat} (hN : N < 2 ^ 31) (k : Int32) : (k < 0 ∨ nI N ≤ k) ∨ ∃ j, j < N ∧ k = nI j := by
  by_cases h0 : k < 0
  · exact .inl (.inl h0)
  · by_cases h1 : nI N ≤ k
    · exact .inl (.inr h1)
    · have h2 : 0 ≤ k.toInt := by
        have q := Int32.not_lt.mp h0
        rw [Int32.le_iff_toInt_le] at q
        exact q
      have h3 : k = nI k.toInt.toNat := by
        have e : Int32.ofInt k.toInt = k := Int32.ofInt_toInt k
        have e2 : Int32.ofInt ((k.toInt.toNat : Nat) : Int) = Int32.ofNat k.toInt.toNat := Int32.ofInt_eq_ofNat
        rw [Int.toNat_of_nonneg h2] at e2
        rw [← e]
        conv => rhs; rw [e]
        exact e2
      have h4 : k.toInt.toNat < 2 ^ 31 := by
        have := Int32.toInt_lt k
        omega
      refine .inr ⟨k.toInt.toNat, ?_, h3⟩
      rw [h3] at h1
      exact Nat.lt_of_not_le fun z => h1 ((nI_leI (by omega) (by omega)).mpr z)
abbrev INV (j : Nat) (σ : pST) (τ : pST) (B : BkS) (bf : Nat → Int64) (bd : Nat) (n : Nat) (S : RnS) (t : Nat) : Prop := (BkOK B) ∧ (B.n + sumN B.ac B.n ≤ j) ∧ (RXbk σ B) ∧ (RMbk τ B) ∧ (∀ k, k < 32 → σ.2 1 k = bf k ∧ τ.2 1 k = bf k) ∧ (1 ≤ bd ∧ bd ≤ 100 ∧ σ.1 0 4 = nI bd ∧ τ.1 0 2 = nI bd) ∧ (∀ y, τ.1 22 y = 0 ∨ τ.1 22 y = 1) ∧ (∀ c, c < 16 → σ.1 (160 + 8 * c) 0 = nI c) ∧ (n ≤ 16) ∧ (RF σ n S t) ∧ (RMF τ n S t) ∧ (S.al = sumN S.da n) ∧ (S.cn ≤ 1000000)
theorem INV.ok {j : Nat} {σ : pST} {τ : pST} {B : BkS} {bf : Nat → Int64} {bd : Nat} {n : Nat} {S : RnS} {t : Nat} (h : INV j σ τ B bf bd n S t) : BkOK B := h.1
theorem INV.cnt {j : Nat} {σ : pST} {τ : pST} {B : BkS} {bf : Nat → Int64} {bd : Nat} {n : Nat} {S : RnS} {t : Nat} (h : INV j σ τ B bf bd n S t) : B.n + sumN B.ac B.n ≤ j := h.2.1
theorem INV.xb {j : Nat} {σ : pST} {τ : pST} {B : BkS} {bf : Nat → Int64} {bd : Nat} {n : Nat} {S : RnS} {t : Nat} (h : INV j σ τ B bf bd n S t) : RXbk σ B := h.2.2.1
theorem INV.mb {j : Nat} {σ : pST} {τ : pST} {B : BkS} {bf : Nat → Int64} {bd : Nat} {n : Nat} {S : RnS} {t : Nat} (h : INV j σ τ B bf bd n S t) : RMbk τ B := h.2.2.2.1
theorem INV.lf {j : Nat} {σ : pST} {τ : pST} {B : BkS} {bf : Nat → Int64} {bd : Nat} {n : Nat} {S : RnS} {t : Nat} (h : INV j σ τ B bf bd n S t) : ∀ k, k < 32 → σ.2 1 k = bf k ∧ τ.2 1 k = bf k := h.2.2.2.2.1
theorem INV.bd {j : Nat} {σ : pST} {τ : pST} {B : BkS} {bf : Nat → Int64} {bd : Nat} {n : Nat} {S : RnS} {t : Nat} (h : INV j σ τ B bf bd n S t) : 1 ≤ bd ∧ bd ≤ 100 ∧ σ.1 0 4 = nI bd ∧ τ.1 0 2 = nI bd := h.2.2.2.2.2.1
theorem INV.z {j : Nat} {σ : pST} {τ : pST} {B : BkS} {bf : Nat → Int64} {bd : Nat} {n : Nat} {S : RnS} {t : Nat} (h : INV j σ τ B bf bd n S t) : ∀ y, τ.1 22 y = 0 ∨ τ.1 22 y = 1 := h.2.2.2.2.2.2.1
theorem INV.s1 {j : Nat} {σ : pST} {τ : pST} {B : BkS} {bf : Nat → Int64} {bd : Nat} {n : Nat} {S : RnS} {t : Nat} (h : INV j σ τ B bf bd n S t) : ∀ c, c < 16 → σ.1 (160 + 8 * c) 0 = nI c := h.2.2.2.2.2.2.2.1
theorem INV.n {j : Nat} {σ : pST} {τ : pST} {B : BkS} {bf : Nat → Int64} {bd : Nat} {n : Nat} {S : RnS} {t : Nat} (h : INV j σ τ B bf bd n S t) : n ≤ 16 := h.2.2.2.2.2.2.2.2.1
theorem INV.rf {j : Nat} {σ : pST} {τ : pST} {B : BkS} {bf : Nat → Int64} {bd : Nat} {n : Nat} {S : RnS} {t : Nat} (h : INV j σ τ B bf bd n S t) : RF σ n S t := h.2.2.2.2.2.2.2.2.2.1
theorem INV.mf {j : Nat} {σ : pST} {τ : pST} {B : BkS} {bf : Nat → Int64} {bd : Nat} {n : Nat} {S : RnS} {t : Nat} (h : INV j σ τ B bf bd n S t) : RMF τ n S t := h.2.2.2.2.2.2.2.2.2.2.1
theorem INV.al {j : Nat} {σ : pST} {τ : pST} {B : BkS} {bf : Nat → Int64} {bd : Nat} {n : Nat} {S : RnS} {t : Nat} (h : INV j σ τ B bf bd n S t) : S.al = sumN S.da n := h.2.2.2.2.2.2.2.2.2.2.2.1
theorem INV.cn {j : Nat} {σ : pST} {τ : pST} {B : BkS} {bf : Nat → Int64} {bd : Nat} {n : Nat} {S : RnS} {t : Nat} (h : INV j σ τ B bf bd n S t) : S.cn ≤ 1000000 := h.2.2.2.2.2.2.2.2.2.2.2.2
abbrev InvP (j : Nat) (σ τ : pST) : Prop := ∃ B bf bd n S t, INV j σ τ B bf bd n S t
theorem inv_up {j : Nat} {σ τ : pST} {B : BkS} {bf : Nat → Int64} {bd n t : Nat} {S : RnS} (h : INV j σ τ B bf bd n S t) : INV (j + 1) σ τ B bf bd n S t := by
  obtain ⟨h1, h2, h3⟩ := h
  exact ⟨h1, Nat.le_succ_of_le h2, h3⟩
abbrev StepP (k : Nat) (j : Nat) (σ τ : pST) (a : Nat → Int32) : Prop := ∃ (σ' τ' : pST) (r : pSV), opX k σ (.inr (.inr 0) :: opA k a) = some (σ', some r) ∧ opM k τ (.inr (.inr 0) :: opA k a) = some (τ', some r) ∧ opT k r ∧ InvP (j + 1) σ' τ'
theorem sumA_n {f : Nat → Int32} {g : Nat → Nat} : ∀ n, (∀ d, d < n → f d = nI (g d)) → sumA f n = nI (sumN g n)
  | 0, _ => rfl
  | n + 1, h => by
    show sumA f n + f n = nI (sumN g n + g n)
    rw [sumA_n n fun d hd => h d (by omega), h n (by omega), nI_add]
theorem cntG_n {f : Nat → Int32} {L : Nat → Nat} : ∀ n, n ≤ 16 → (∀ d, d < n → f d = nI (L d) ∧ L d ≤ d) → cntG f n = nI (cntL L n)
  | 0, _, _ => rfl
  | n + 1, hn, h => by
    obtain ⟨h1, h2⟩ := h n (by omega)
    have ih := cntG_n n (by omega) fun d hd => h d (by omega)
    show (if f n = nI n then cntG f n + 1 else cntG f n) = nI (cntL L n + (if L n = n then 1 else 0))
    rw [h1, ih]
    by_cases e : L n = n
    · rw [if_pos (by rw [e]), if_pos e, nI_1]
    · rw [if_neg (fun z => e ((nI_eq (by omega) (by omega)).mp z)), if_neg e, Nat.add_zero]
theorem iv_same {j k : Nat} {σ τ : pST} {a : Nat → Int32} {r : pSV} {B : BkS} {bf : Nat → Int64} {bd n t : Nat} {S : RnS} (h : INV j σ τ B bf bd n S t) (hx : opX k σ (.inr (.inr 0) :: opA k a) = some (σ, some r)) (hm : opM k τ (.inr (.inr 0) :: opA k a) = some (τ, some r)) (ht : opT k r) : StepP k j σ τ a := ⟨σ, τ, r, hx, hm, ht, B, bf, bd, n, S, t, inv_up h⟩
theorem op_8 {j : Nat} {σ τ : pST} {a : Nat → Int32} (h : InvP j σ τ) : StepP 8 j σ τ a := by
  obtain ⟨B, bf, bd, n, S, t, h⟩ := h
  have e1 := ev_X7_events σ h.n h.rf.n
  rw [sumA_n (g := fun d => enE (S.am d)) n (fun d hd => ((h.rf.a d hd).1.am (h.rf.a d hd).2.1).1.en)] at e1
  have e2 := ev_X8_events τ
  rw [h.mf.2.2.2.1] at e2
  exact iv_same h e1 e2 ⟨_, rfl⟩
theorem op_11 {j : Nat} {σ τ : pST} {a : Nat → Int32} (h : InvP j σ τ) : StepP 11 j σ τ a := by
  obtain ⟨B, bf, bd, n, S, t, h⟩ := h
  have e1 := ev_X7_conflicts σ
  rw [h.rf.cn] at e1
  have e2 := ev_X8_conflicts τ
  rw [h.mf.1.2.2.2.2.2.2.2.1] at e2
  exact iv_same h e1 e2 ⟨_, rfl⟩
theorem op_6 {j : Nat} {σ τ : pST} {a : Nat → Int32} (h : InvP j σ τ) : StepP 6 j σ τ a := by
  obtain ⟨B, bf, bd, n, S, t, h⟩ := h
  have hs : ∀ k, (kX7_at σ [.inr (.inr 0), .inl k] = some (σ, some (.inr (.inl 0))) ∧ kX8_at τ [.inr (.inr 0), .inl k] = some (τ, some (.inr (.inl 0)))) ∨ ∃ v, kX7_at σ [.inr (.inr 0), .inl k] = some (σ, some (.inr (.inl v))) ∧ kX8_at τ [.inr (.inr 0), .inl k] = some (τ, some (.inr (.inl v))) := fun k => by
    rcases i32_in (N := 32) (by decide) k with hk | ⟨i, hi, rfl⟩
    · exact .inl ⟨ev_X7_at_out σ hk, ev_X8_at_out τ hk⟩
    · refine .inr ⟨bf i, ?_, ?_⟩
      · rw [ev_X7_at_in σ hi, (h.lf i hi).1]
      · rw [ev_X8_at_in τ hi, (h.lf i hi).2]
  rcases hs (a 1) with ⟨e1, e2⟩ | ⟨v, e1, e2⟩
  · exact iv_same h e1 e2 ⟨_, rfl⟩
  · exact iv_same h e1 e2 ⟨_, rfl⟩
