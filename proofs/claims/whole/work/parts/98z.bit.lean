/-! ===== bitCount of the machine ===== -/
def ush (x : Int32) (s : Nat) : Int32 := (x.toUInt32 >>> ((nI s).toUInt32 &&& Int32.toUInt32 31)).toInt32
def bA1 (x : Int32) : Int32 := x - (ush x 1 &&& 1431655765)
def bA2 (x : Int32) : Int32 := (x &&& 858993459) + (ush x 2 &&& 858993459)
def bA3 (x : Int32) : Int32 := (x + ush x 4) &&& 252645135
def bA4 (x : Int32) : Int32 := x + ush x 8
def bA5 (x : Int32) : Int32 := x + ush x 16

set_option maxRecDepth 100000 in
theorem ev_J6_bitCount (σ : pST) (v : Int32) : kJ6_bitCount_0f7a4 σ [.inl v] = some ((σ, some (.inl ((bA5 (bA4 (bA3 (bA2 (bA1 v))))) &&& nI 63)))) := by
  have key : ∃ x, kJ6_bitCount_0f7a4 σ [.inl v] = some x ∧ x = (σ, some (.inl ((bA5 (bA4 (bA3 (bA2 (bA1 v))))) &&& nI 63))) := by
    refine pR_metS (post := fun x => x = (σ, some (.inl ((bA5 (bA4 (bA3 (bA2 (bA1 v))))) &&& nI 63)))) (Nat.le_of_ble_eq_true rfl) ?_
    show pR _ _ _ _ _ _ _ _ 0 [(0, .inl v)] [] σ
    refine pr_iload_n tJ6_bitCount_0f7a4_0 0 rfl ?_
    refine pr_iload_n tJ6_bitCount_0f7a4_1 0 rfl ?_
    refine pr_iconst (v := nI 1) tJ6_bitCount_0f7a4_2 rfl ?_
    refine pr_iushr (v := (ush v 1)) tJ6_bitCount_0f7a4_3 (rfl) ?_
    refine pr_ldcw tJ6_bitCount_0f7a4_4 rfl ?_
    refine pr_iand (v := ((ush v 1) &&& (1431655765))) tJ6_bitCount_0f7a4_7 (rfl) ?_
    refine pr_isub (v := (bA1 v)) tJ6_bitCount_0f7a4_8 (rfl) ?_
    refine pr_istore_n (L' := [(0, .inl (bA1 v))]) tJ6_bitCount_0f7a4_9 (by decide) rfl ?_
    refine pr_iload_n tJ6_bitCount_0f7a4_10 0 rfl ?_
    refine pr_ldcw tJ6_bitCount_0f7a4_11 rfl ?_
    refine pr_iand (v := ((bA1 v) &&& (858993459))) tJ6_bitCount_0f7a4_14 (rfl) ?_
    refine pr_iload_n tJ6_bitCount_0f7a4_15 0 rfl ?_
    refine pr_iconst (v := nI 2) tJ6_bitCount_0f7a4_16 rfl ?_
    refine pr_iushr (v := (ush (bA1 v) 2)) tJ6_bitCount_0f7a4_17 (rfl) ?_
    refine pr_ldcw tJ6_bitCount_0f7a4_18 rfl ?_
    refine pr_iand (v := ((ush (bA1 v) 2) &&& (858993459))) tJ6_bitCount_0f7a4_21 (rfl) ?_
    refine pr_iadd (v := (bA2 (bA1 v))) tJ6_bitCount_0f7a4_22 (rfl) ?_
    refine pr_istore_n (L' := [(0, .inl (bA2 (bA1 v)))]) tJ6_bitCount_0f7a4_23 (by decide) rfl ?_
    refine pr_iload_n tJ6_bitCount_0f7a4_24 0 rfl ?_
    refine pr_iload_n tJ6_bitCount_0f7a4_25 0 rfl ?_
    refine pr_iconst (v := nI 4) tJ6_bitCount_0f7a4_26 rfl ?_
    refine pr_iushr (v := (ush (bA2 (bA1 v)) 4)) tJ6_bitCount_0f7a4_27 (rfl) ?_
    refine pr_iadd (v := ((bA2 (bA1 v)) + (ush (bA2 (bA1 v)) 4))) tJ6_bitCount_0f7a4_28 (rfl) ?_
    refine pr_ldcw tJ6_bitCount_0f7a4_29 rfl ?_
    refine pr_iand (v := (bA3 (bA2 (bA1 v)))) tJ6_bitCount_0f7a4_32 (rfl) ?_
    refine pr_istore_n (L' := [(0, .inl (bA3 (bA2 (bA1 v))))]) tJ6_bitCount_0f7a4_33 (by decide) rfl ?_
    refine pr_iload_n tJ6_bitCount_0f7a4_34 0 rfl ?_
    refine pr_iload_n tJ6_bitCount_0f7a4_35 0 rfl ?_
    refine pr_bipush (v := nI 8) tJ6_bitCount_0f7a4_36 rfl ?_
    refine pr_iushr (v := (ush (bA3 (bA2 (bA1 v))) 8)) tJ6_bitCount_0f7a4_38 (rfl) ?_
    refine pr_iadd (v := (bA4 (bA3 (bA2 (bA1 v))))) tJ6_bitCount_0f7a4_39 (rfl) ?_
    refine pr_istore_n (L' := [(0, .inl (bA4 (bA3 (bA2 (bA1 v)))))]) tJ6_bitCount_0f7a4_40 (by decide) rfl ?_
    refine pr_iload_n tJ6_bitCount_0f7a4_41 0 rfl ?_
    refine pr_iload_n tJ6_bitCount_0f7a4_42 0 rfl ?_
    refine pr_bipush (v := nI 16) tJ6_bitCount_0f7a4_43 rfl ?_
    refine pr_iushr (v := (ush (bA4 (bA3 (bA2 (bA1 v)))) 16)) tJ6_bitCount_0f7a4_45 (rfl) ?_
    refine pr_iadd (v := (bA5 (bA4 (bA3 (bA2 (bA1 v)))))) tJ6_bitCount_0f7a4_46 (rfl) ?_
    refine pr_istore_n (L' := [(0, .inl (bA5 (bA4 (bA3 (bA2 (bA1 v))))))]) tJ6_bitCount_0f7a4_47 (by decide) rfl ?_
    refine pr_iload_n tJ6_bitCount_0f7a4_48 0 rfl ?_
    refine pr_bipush (v := nI 63) tJ6_bitCount_0f7a4_49 rfl ?_
    refine pr_iand (v := ((bA5 (bA4 (bA3 (bA2 (bA1 v))))) &&& (nI 63))) tJ6_bitCount_0f7a4_51 (rfl) ?_
    refine pr_iret tJ6_bitCount_0f7a4_52 rfl ?_
    rfl
  obtain ⟨x, h1, h2⟩ := key
  rw [h1, h2]

theorem ush_t {x : Int32} {s : Nat} (hs : s = 1 ∨ s = 2 ∨ s = 4 ∨ s = 8 ∨ s = 16) : (ush x s).toBitVec.toNat = x.toBitVec.toNat / 2 ^ s := by
  have key : ∀ t : UInt32, t.toNat < 32 → (x.toUInt32 >>> t).toNat = x.toBitVec.toNat / 2 ^ t.toNat := fun t ht => by
    rw [UInt32.toNat_shiftRight]
    show x.toBitVec.toNat >>> (t.toNat % 32) = _
    rw [Nat.mod_eq_of_lt ht, Nat.shiftRight_eq_div_pow]
  show (x.toUInt32 >>> ((nI s).toUInt32 &&& Int32.toUInt32 31)).toNat = _
  have e : ((nI s).toUInt32 &&& Int32.toUInt32 31).toNat = s := by
    rcases hs with h | h | h | h | h <;> subst h <;> decide
  have hl : ((nI s).toUInt32 &&& Int32.toUInt32 31).toNat < 32 := by
    rw [e]
    omega
  rw [key _ hl, e]
theorem bit_all (x : Int32) : (bA5 (bA4 (bA3 (bA2 (bA1 x)))) &&& nI 63) = nI (cbN x.toBitVec.toNat 32) := by
  have hX := x.toBitVec.isLt
  obtain ⟨q1, q2, q3, q4, q5, q6⟩ := bits_n (X := x.toBitVec.toNat) hX rfl rfl rfl rfl rfl
  have t1 : (bA1 x).toBitVec.toNat = x.toBitVec.toNat - (x.toBitVec.toNat / 2 &&& 1431655765) := by
    unfold bA1
    rw [Int32.toBitVec_sub, BitVec.toNat_sub, Int32.toBitVec_and, BitVec.toNat_and, ush_t (by decide)]
    show (2 ^ 32 - (x.toBitVec.toNat / 2 ^ 1 &&& 1431655765) + x.toBitVec.toNat) % 2 ^ 32 = _
    rw [show (2 : Nat) ^ 1 = 2 from rfl]
    omega
  generalize hs1 : x.toBitVec.toNat - (x.toBitVec.toNat / 2 &&& 1431655765) = s1 at t1 q2 q3 q4 q5 q6
  have t2 : (bA2 (bA1 x)).toBitVec.toNat = (s1 &&& 858993459) + (s1 / 4 &&& 858993459) := by
    unfold bA2
    rw [Int32.toBitVec_add, BitVec.toNat_add, Int32.toBitVec_and, Int32.toBitVec_and, BitVec.toNat_and, BitVec.toNat_and, ush_t (by decide), t1]
    show ((s1 &&& 858993459) + (s1 / 2 ^ 2 &&& 858993459)) % 2 ^ 32 = _
    rw [show (2 : Nat) ^ 2 = 4 from rfl]
    exact Nat.mod_eq_of_lt q2
  generalize hs2 : (s1 &&& 858993459) + (s1 / 4 &&& 858993459) = s2 at t2 q3 q4 q5 q6
  have t3 : (bA3 (bA2 (bA1 x))).toBitVec.toNat = (s2 + s2 / 16 &&& 252645135) := by
    unfold bA3
    rw [Int32.toBitVec_and, BitVec.toNat_and, Int32.toBitVec_add, BitVec.toNat_add, ush_t (by decide), t2]
    show ((s2 + s2 / 2 ^ 4) % 2 ^ 32 &&& 252645135) = _
    rw [show (2 : Nat) ^ 4 = 16 from rfl, Nat.mod_eq_of_lt q3]
  generalize hs3 : (s2 + s2 / 16 &&& 252645135) = s3 at t3 q4 q5 q6
  have t4 : (bA4 (bA3 (bA2 (bA1 x)))).toBitVec.toNat = s3 + s3 / 256 := by
    unfold bA4
    rw [Int32.toBitVec_add, BitVec.toNat_add, ush_t (by decide), t3]
    show (s3 + s3 / 2 ^ 8) % 2 ^ 32 = _
    rw [show (2 : Nat) ^ 8 = 256 from rfl, Nat.mod_eq_of_lt q4]
  generalize hs4 : s3 + s3 / 256 = s4 at t4 q5 q6
  have t5 : (bA5 (bA4 (bA3 (bA2 (bA1 x))))).toBitVec.toNat = s4 + s4 / 65536 := by
    unfold bA5
    rw [Int32.toBitVec_add, BitVec.toNat_add, ush_t (by decide), t4]
    show (s4 + s4 / 2 ^ 16) % 2 ^ 32 = _
    rw [show (2 : Nat) ^ 16 = 65536 from rfl, Nat.mod_eq_of_lt q5]
  apply Int32.toBitVec_inj.mp
  apply BitVec.eq_of_toNat_eq
  rw [Int32.toBitVec_and, BitVec.toNat_and, t5]
  show (s4 + s4 / 65536 &&& 63) = (BitVec.ofNat 32 (cbN x.toBitVec.toNat 32)).toNat
  rw [show (63 : Nat) = 2 ^ 6 - 1 from rfl, Nat.and_two_pow_sub_one_eq_mod, BitVec.toNat_ofNat]
  have q7 : (s4 + s4 / 65536) % 64 < 64 := Nat.mod_lt _ (by decide)
  rw [show (2 : Nat) ^ 6 = 64 from rfl]
  omega
theorem wc_bits {σ : pST} {a c : Nat} {A : AtS} (h : RXat σ a c A) : ∀ m, m ≤ 32 → cbN (σ.1 a 12).toBitVec.toNat m = wcA A m
  | 0, _ => rfl
  | m + 1, hm => by
    have q := h.wb m (by clear h; omega)
    have q2 : (σ.1 a 12).toBitVec.toNat.testBit m = wrA A m := q
    unfold cbN wcA
    rw [wc_bits h m (by clear h; omega), q2]
theorem rx_count {σ : pST} {c : Nat} {A : AtS} (hc : c < 16) (h : RXat σ (16 + 8 * c) c A) : kX0_countWritten σ [.inr (.inr (16 + 8 * c))] = some (σ, some (.inl (nI (wcA A 32)))) := by
  refine ev_X0_countWritten σ hc ?_
  rw [ev_J6_bitCount, bit_all, wc_bits h 32 (Nat.le_refl _)]
