/-! ===== the picks of the workers ===== -/
def lcN (x : Nat) : Nat := (x * 1103515245 + 12345) % 4294967296
def lcI (x : Nat) : Nat → Nat
  | 0 => x
  | i + 1 => lcN (lcI x i)
theorem lcI_h {x : Nat} (i : Nat) : lcI (lcN x) i = lcI x (i + 1) := by
  induction i with
  | zero => simp only [lcI]
  | succ i ih => rw [lcI, ih]; simp only [lcI]
def aI : Nat → Nat
  | 0 => 1
  | i + 1 => 20077 * aI i % 65536
theorem mulm (a b c : Nat) : a % 65536 * b % 65536 = a * b % 65536 := by rw [Nat.mul_mod, Nat.mod_mod, ← Nat.mul_mod]
theorem lc_1 {Y l : Nat} : lcN (65536 * Y + l) / 65536 = (20077 * Y + (l * 1103515245 + 12345) / 65536) % 65536 ∧ lcN (65536 * Y + l) % 65536 = (l * 1103515245 + 12345) % 65536 := by
  unfold lcN
  have e : (65536 * Y + l) * 1103515245 + 12345 = 65536 * (1103515245 * Y + (l * 1103515245 + 12345) / 65536) + (l * 1103515245 + 12345) % 65536 := by omega
  rw [e]
  generalize (l * 1103515245 + 12345) / 65536 = q
  have hl : (l * 1103515245 + 12345) % 65536 < 65536 := Nat.mod_lt _ (by decide)
  generalize (l * 1103515245 + 12345) % 65536 = r at hl
  omega
theorem lc_split {h L : Nat} (hh : h < 65536) (hL : L < 65536) : ∀ i, lcI (65536 * h + L) i / 65536 = (aI i * h + lcI L i / 65536) % 65536 ∧ lcI (65536 * h + L) i % 65536 = lcI L i % 65536
  | 0 => by
    show (65536 * h + L) / 65536 = (1 * h + L / 65536) % 65536 ∧ (65536 * h + L) % 65536 = L % 65536
    omega
  | i + 1 => by
    obtain ⟨h1, h2⟩ := lc_split hh hL i
    show lcN (lcI (65536 * h + L) i) / 65536 = (20077 * aI i % 65536 * h + lcN (lcI L i) / 65536) % 65536 ∧ lcN (lcI (65536 * h + L) i) % 65536 = lcN (lcI L i) % 65536
    have e1 : lcI (65536 * h + L) i = 65536 * (lcI (65536 * h + L) i / 65536) + lcI L i % 65536 := by omega
    have e2 : lcI L i = 65536 * (lcI L i / 65536) + lcI L i % 65536 := by omega
    rw [e1, h1]
    have k1 := lc_1 (Y := (aI i * h + lcI L i / 65536) % 65536) (l := lcI L i % 65536)
    have k2 := lc_1 (Y := lcI L i / 65536) (l := lcI L i % 65536)
    rw [← e2] at k2
    refine ⟨?_, by rw [k1.2, k2.2]⟩
    rw [k1.1, k2.1]
    have m := mulm (20077 * aI i) h 0
    rw [Nat.mul_assoc] at m
    omega
/-! bits of long masks -/
def dbl (n : Nat) : Nat := n ||| n <<< 65536
def rotR (n t : Nat) : Nat := (dbl n >>> t) % 2 ^ 65536
theorem tb_hi {n i : Nat} (hn : n < 2 ^ 65536) (hi : 65536 ≤ i) : n.testBit i = false := Nat.testBit_lt_two_pow (Nat.lt_of_lt_of_le hn (Nat.pow_le_pow_right (by decide) hi))
theorem tb_dbl {n p : Nat} (hn : n < 2 ^ 65536) (hp : p < 131072) : (dbl n).testBit p = n.testBit (p % 65536) := by
  unfold dbl
  rw [Nat.testBit_or, Nat.testBit_shiftLeft]
  by_cases h : p < 65536
  · rw [Nat.mod_eq_of_lt h, decide_eq_false (by omega), Bool.false_and, Bool.or_false]
  · rw [tb_hi hn (by omega), decide_eq_true (by omega), Bool.false_or, Bool.true_and, show p - 65536 = p % 65536 by omega]
theorem tb_rot {n t h : Nat} (hn : n < 2 ^ 65536) (ht : t ≤ 65536) (hh : h < 65536) : (rotR n t).testBit h = n.testBit ((h + t) % 65536) := by
  unfold rotR
  rw [Nat.testBit_mod_two_pow, Nat.testBit_shiftRight, decide_eq_true hh, Bool.true_and, tb_dbl hn (by omega), Nat.add_comm]
theorem rot_lt {n t : Nat} : rotR n t < 2 ^ 65536 := Nat.mod_lt _ (Nat.pow_pos (by decide))
def mkP (b : Nat) : Nat → Nat
  | 0 => 1
  | j + 1 => mkP b j ||| rotR (mkP b j) (65536 - b * 2 ^ j % 65536)
def mkQ (b : Nat) : Nat := mkP b 14 ||| rotR (mkP b 14) (65536 - b * 5461 % 65536)
theorem or_lt {a b : Nat} (ha : a < 2 ^ 65536) (hb : b < 2 ^ 65536) : a ||| b < 2 ^ 65536 := Nat.or_lt_two_pow ha hb
theorem mkP_ok {b : Nat} : ∀ j, mkP b j < 2 ^ 65536 ∧ ∀ h, h < 65536 → (mkP b j).testBit h = true → ∃ k, k < 2 ^ j ∧ h % 65536 = b * k % 65536
  | 0 => by
    refine ⟨Nat.one_lt_two_pow (by decide), fun h _ ht => ⟨0, by decide, ?_⟩⟩
    have : h = 0 := by
      have h1 : (2 ^ 0).testBit h = true := ht
      rw [Nat.testBit_two_pow] at h1
      exact (of_decide_eq_true h1).symm
    rw [this, Nat.mul_zero]
  | j + 1 => by
    obtain ⟨i1, i2⟩ := mkP_ok (b := b) j
    refine ⟨or_lt i1 rot_lt, fun h hh ht => ?_⟩
    unfold mkP at ht
    rw [Nat.testBit_or, Bool.or_eq_true] at ht
    have e2 : 2 ^ (j + 1) = 2 ^ j + 2 ^ j := by rw [Nat.pow_succ]; omega
    rcases ht with ht | ht
    · obtain ⟨k, hk, e⟩ := i2 h hh ht
      exact ⟨k, by omega, e⟩
    · rw [tb_rot i1 (by omega) hh] at ht
      obtain ⟨k, hk, e⟩ := i2 _ (Nat.mod_lt _ (by decide)) ht
      refine ⟨k + 2 ^ j, by omega, ?_⟩
      rw [Nat.mul_add]
      generalize b * 2 ^ j = y at e ⊢
      generalize b * k = z at e ⊢
      omega
theorem mkQ_ok {b : Nat} : mkQ b < 2 ^ 65536 ∧ ∀ h, h < 65536 → (mkQ b).testBit h = true → ∃ k, k < 21845 ∧ h % 65536 = b * k % 65536 := by
  obtain ⟨i1, i2⟩ := mkP_ok (b := b) 14
  refine ⟨or_lt i1 rot_lt, fun h hh ht => ?_⟩
  unfold mkQ at ht
  rw [Nat.testBit_or, Bool.or_eq_true] at ht
  have e2 : 2 ^ 14 = 16384 := by decide
  rcases ht with ht | ht
  · obtain ⟨k, hk, e⟩ := i2 h hh ht
    exact ⟨k, by omega, e⟩
  · rw [tb_rot i1 (by omega) hh] at ht
    obtain ⟨k, hk, e⟩ := i2 _ (Nat.mod_lt _ (by decide)) ht
    refine ⟨k + 5461, by omega, ?_⟩
    rw [Nat.mul_add]
    generalize b * 5461 = y at e ⊢
    generalize b * k = z at e ⊢
    omega
def mkN (b : Nat) : Nat := (2 ^ 65536 - 1) ^^^ mkQ b
theorem mkN_lt {b : Nat} : mkN b < 2 ^ 65536 := Nat.xor_lt_two_pow (Nat.sub_lt (Nat.pow_pos (by decide)) (by decide)) mkQ_ok.1
theorem mkN_ok {b h : Nat} (hh : h < 65536) (ht : (mkN b).testBit h = false) : ∃ k, k < 21845 ∧ h % 65536 = b * k % 65536 := by
  apply mkQ_ok.2 h hh
  unfold mkN at ht
  rw [Nat.testBit_xor, Nat.testBit_two_pow_sub_one, decide_eq_true hh] at ht
  simpa using ht
def mkT (b inv : Nat) : Nat := dbl (mkN b) ||| (dbl (rotR (mkN b) (65536 - inv))) <<< 131072 ||| (dbl (rotR (mkN b) (65536 - inv * 2 % 65536))) <<< 262144
theorem dbl_hi {n p : Nat} (hn : n < 2 ^ 65536) (hp : 131072 ≤ p) : (dbl n).testBit p = false := by
  unfold dbl
  rw [Nat.testBit_or, Nat.testBit_shiftLeft, tb_hi hn (by omega), tb_hi hn (by omega), Bool.and_false, Bool.or_false]
theorem mkT_ok {b inv v p : Nat} (hi : inv < 65536) (hv : v < 3) (hp : p < 131072) (ht : (mkT b inv).testBit (131072 * v + p) = false) : ∃ k, k < 21845 ∧ (p + (65536 - v * inv % 65536)) % 65536 = b * k % 65536 := by
  unfold mkT at ht
  rw [Nat.testBit_or, Nat.testBit_or, Nat.testBit_shiftLeft, Nat.testBit_shiftLeft] at ht
  have hl := mkN_lt (b := b)
  match v, hv with
  | 0, _ =>
    rw [Bool.or_eq_false_iff, Bool.or_eq_false_iff] at ht
    have h1 := ht.1.1
    rw [show 131072 * 0 + p = p by omega, tb_dbl hl hp] at h1
    obtain ⟨k, hk, e⟩ := mkN_ok (Nat.mod_lt _ (by decide)) h1
    exact ⟨k, hk, by rw [← e]; omega⟩
  | 1, _ =>
    rw [Bool.or_eq_false_iff, Bool.or_eq_false_iff] at ht
    have h1 := ht.1.2
    rw [decide_eq_true (show 131072 * 1 + p ≥ 131072 by omega), Bool.true_and, show 131072 * 1 + p - 131072 = p by omega, tb_dbl rot_lt hp, tb_rot hl (by omega) (Nat.mod_lt _ (by decide))] at h1
    obtain ⟨k, hk, e⟩ := mkN_ok (Nat.mod_lt _ (by decide)) h1
    exact ⟨k, hk, by rw [← e]; omega⟩
  | 2, _ =>
    rw [Bool.or_eq_false_iff, Bool.or_eq_false_iff] at ht
    have h1 := ht.2
    rw [decide_eq_true (show 131072 * 2 + p ≥ 262144 by omega), Bool.true_and, show 131072 * 2 + p - 262144 = p by omega, tb_dbl rot_lt hp, tb_rot hl (by omega) (Nat.mod_lt _ (by decide))] at h1
    obtain ⟨k, hk, e⟩ := mkN_ok (Nat.mod_lt _ (by decide)) h1
    exact ⟨k, hk, by rw [← e]; omega⟩
def mkL : Nat → Nat → List (Nat × Nat)
  | 0, _ => []
  | f + 1, inv => (mkT (3 * inv % 65536) inv, inv) :: mkL f (inv * 60261 % 65536)
noncomputable def chk2 (l : List (Nat × Nat)) : Nat → Nat → Bool :=
  List.rec (motive := fun _ => Nat → Nat → Bool) (fun _ u => Nat.beq u 0) (fun hd _ ih x u => Bool.rec (motive := fun _ => Bool) (ih (Nat.mod (Nat.add (Nat.mul x 1103515245) 12345) 4294967296) (Nat.land u (Nat.shiftRight hd.1 (Nat.mod (Nat.mul hd.2 (Nat.div (Nat.mod (Nat.add (Nat.mul x 1103515245) 12345) 4294967296) 65536)) 65536)))) true (Nat.beq u 0)) l
noncomputable def allN (p : Nat → Bool) (n : Nat) : Nat → Bool :=
  Nat.rec (motive := fun _ => Nat → Bool) (fun _ => true) (fun _ ih L => Bool.rec (motive := fun _ => Bool) false (ih (Nat.succ L)) (p L)) n
theorem allN_ok {p : Nat → Bool} (n : Nat) : ∀ a, allN p n a = true → ∀ L, a ≤ L → L < a + n → p L = true := by
  induction n with
  | zero => intro a _ L h1 h2; omega
  | succ n ih =>
    intro a h L h1 h2
    have e : allN p (n + 1) a = Bool.rec (motive := fun _ => Bool) false (allN p n (Nat.succ a)) (p a) := rfl
    rw [e] at h
    cases hb : p a with
    | false => rw [hb] at h; cases h
    | true =>
      rw [hb] at h
      by_cases e2 : L = a
      · rw [e2]; exact hb
      · exact ih (Nat.succ a) h L (by omega) (by omega)
theorem allN_x {p : Nat → Bool} {n a : Nat} (h0 : ∀ L, L < a → p L = true) (h : allN p n a = true) : ∀ L, L < a + n → p L = true := fun L hL => by
  by_cases h1 : L < a
  · exact h0 L h1
  · exact allN_ok n a h L (by omega) hL
def u3 : Nat := (2 ^ 65536 - 1) ||| (2 ^ 65536 - 1) <<< 131072 ||| (2 ^ 65536 - 1) <<< 262144
def invI : Nat → Nat → Nat
  | inv, 0 => inv
  | inv, i + 1 => invI (inv * 60261 % 65536) i
theorem chk2_nil {x u : Nat} : chk2 [] x u = Nat.beq u 0 := rfl
theorem chk2_cons {hd : Nat × Nat} {l : List (Nat × Nat)} {x u : Nat} : chk2 (hd :: l) x u = if u = 0 then true else chk2 l (lcN x) (u &&& hd.1 >>> (hd.2 * (lcN x / 65536) % 65536)) := by
  have e : chk2 (hd :: l) x u = Bool.rec (motive := fun _ => Bool) (chk2 l (lcN x) (u &&& hd.1 >>> (hd.2 * (lcN x / 65536) % 65536))) true (Nat.beq u 0) := rfl
  rw [e]
  by_cases h : u = 0
  · rw [if_pos h, h]
    rfl
  · rw [if_neg h]
    have : Nat.beq u 0 = false := by
      cases hb : Nat.beq u 0 with
      | false => rfl
      | true => exact absurd (Nat.eq_of_beq_eq_true hb) h
    rw [this]
theorem chk2_ok : ∀ (f inv x u q : Nat), chk2 (mkL f inv) x u = true → u.testBit q = true → ∃ i, i < f ∧ (mkT (3 * invI inv i % 65536) (invI inv i)).testBit (q + invI inv i * (lcI x (i + 1) / 65536) % 65536) = false := by
  intro f
  induction f with
  | zero =>
    intro inv x u q h hu
    have h1 : Nat.beq u 0 = true := h
    rw [Nat.eq_of_beq_eq_true h1, Nat.zero_testBit] at hu
    cases hu
  | succ f ih =>
    intro inv x u q h hu
    have h1 : chk2 ((mkT (3 * inv % 65536) inv, inv) :: mkL f (inv * 60261 % 65536)) x u = true := h
    rw [chk2_cons] at h1
    split at h1
    · rename_i hz
      rw [hz, Nat.zero_testBit] at hu
      cases hu
    · by_cases hb : (u &&& mkT (3 * inv % 65536) inv >>> (inv * (lcN x / 65536) % 65536)).testBit q = true
      · obtain ⟨i, hi, e⟩ := ih _ _ _ q h1 hb
        refine ⟨i + 1, by omega, ?_⟩
        rw [lcI_h] at e
        exact e
      · refine ⟨0, by omega, ?_⟩
        rw [Nat.testBit_and, hu, Bool.true_and, Nat.testBit_shiftRight, Nat.add_comm] at hb
        have hb2 : (mkT (3 * inv % 65536) inv).testBit (q + inv * (lcN x / 65536) % 65536) = false := by simpa using hb
        exact hb2
theorem u3_ok {v h : Nat} (hv : v < 3) (hh : h < 65536) : u3.testBit (131072 * v + h) = true := by
  unfold u3
  rw [Nat.testBit_or, Nat.testBit_or, Nat.testBit_shiftLeft, Nat.testBit_shiftLeft, Nat.testBit_two_pow_sub_one, Nat.testBit_two_pow_sub_one, Nat.testBit_two_pow_sub_one, Bool.or_eq_true, Bool.or_eq_true, Bool.and_eq_true, Bool.and_eq_true, decide_eq_true_iff, decide_eq_true_iff, decide_eq_true_iff, decide_eq_true_iff, decide_eq_true_iff]
  omega
theorem invI_s : ∀ i inv, invI inv (i + 1) = invI inv i * 60261 % 65536
  | 0, inv => rfl
  | i + 1, inv => by
    rw [invI, invI_s i]
    rfl
theorem invI_lt : ∀ i, invI 60261 i < 65536
  | 0 => by decide
  | i + 1 => by rw [invI_s]; exact Nat.mod_lt _ (by decide)
theorem inv_a : ∀ i, aI (i + 1) * invI 60261 i % 65536 = 1
  | 0 => by decide
  | i + 1 => by
    have h := inv_a i
    rw [invI_s, aI, mulm _ _ 0, Nat.mul_comm, mulm _ _ 0, show invI 60261 i * 60261 * (20077 * aI (i + 1)) = aI (i + 1) * invI 60261 i * (60261 * 20077) by ac_rfl, ← mulm _ _ 0, h]
theorem cong_a {a inv h d v k p : Nat} (hi : a * inv % 65536 = 1) (hp : p = h + inv * d % 65536) (e : (p + (65536 - v * inv % 65536)) % 65536 = 3 * inv % 65536 * k % 65536) : (a * h + d) % 65536 = (3 * k + v) % 65536 := by
  have h1 : (h + inv * d) % 65536 = (3 * inv * k + v * inv) % 65536 := by
    rw [mulm _ _ 0] at e
    subst hp
    generalize inv * d = x1 at e ⊢
    generalize v * inv = x2 at e ⊢
    generalize 3 * inv * k = x3 at e ⊢
    omega
  have h2 : a * (h + inv * d) % 65536 = a * (3 * inv * k + v * inv) % 65536 := by
    rw [Nat.mul_mod, h1, ← Nat.mul_mod]
  rw [Nat.mul_add, Nat.mul_add, show a * (inv * d) = a * inv * d by ac_rfl, show a * (3 * inv * k) = a * inv * (3 * k) by ac_rfl, show a * (v * inv) = a * inv * v by ac_rfl] at h2
  have m1 := mulm (a * inv) d 0
  have m2 := mulm (a * inv) (3 * k) 0
  have m3 := mulm (a * inv) v 0
  rw [hi, Nat.one_mul] at m1 m2 m3
  generalize a * inv * d = x1 at *
  generalize a * inv * (3 * k) = x2 at *
  generalize a * inv * v = x3 at *
  generalize a * h = x4 at *
  omega
theorem mod3 {k v : Nat} (hk : k < 21845) (hv : v < 3) : (3 * k + v) % 65536 % 3 = v := by
  rw [Nat.mod_eq_of_lt (show 3 * k + v < 65536 by omega)]
  omega
theorem pick3 (hall : ∀ L, L < 65536 → chk2 (mkL 61 60261) L u3 = true) {x v : Nat} (hx : x < 4294967296) (hv : v < 3) : ∃ r, r < 61 ∧ lcI x (r + 1) / 65536 % 3 = v := by
  have hh : x / 65536 < 65536 := by omega
  have hL : x % 65536 < 65536 := by omega
  obtain ⟨i, hi, e⟩ := chk2_ok 61 60261 _ u3 (131072 * v + x / 65536) (hall _ hL) (u3_ok hv hh)
  rw [Nat.add_assoc] at e
  obtain ⟨k, hk, e2⟩ := mkT_ok (invI_lt i) hv (by have := Nat.mod_lt (invI 60261 i * (lcI (x % 65536) (i + 1) / 65536)) (show 0 < 65536 by decide); omega) e
  have e3 := cong_a (inv_a i) rfl e2
  refine ⟨i, hi, ?_⟩
  have e4 := (lc_split hh hL (i + 1)).1
  rw [show 65536 * (x / 65536) + x % 65536 = x by omega] at e4
  rw [e4, e3]
  exact mod3 hk hv
/-! two and four workers -/
noncomputable def chk4 (f : Nat) : Nat → Nat → Bool :=
  Nat.rec (motive := fun _ => Nat → Nat → Bool) (fun _ m => Nat.beq m 15) (fun _ ih x m => Bool.rec (motive := fun _ => Bool) (ih (Nat.mod (Nat.add (Nat.mul x 1103515245) 12345) 4294967296) (Nat.lor m (Nat.shiftLeft 1 (Nat.mod (Nat.div (Nat.mod (Nat.add (Nat.mul x 1103515245) 12345) 4294967296) 65536) 4)))) true (Nat.beq m 15)) f
theorem tb15 {u : Nat} (h : u < 4) : Nat.testBit 15 u = true := by
  have : ∀ u, u < 4 → Nat.testBit 15 u = true := by decide
  exact this u h
theorem chk4_ok (f : Nat) : ∀ x m u, u < 4 → chk4 f x m = true → m.testBit u = true ∨ ∃ i, i < f ∧ lcI x (i + 1) / 65536 % 4 = u := by
  induction f with
  | zero =>
    intro x m u hu h
    have h1 : Nat.beq m 15 = true := h
    rw [Nat.eq_of_beq_eq_true h1]
    exact .inl (tb15 hu)
  | succ f ih =>
    intro x m u hu h
    have e : chk4 (f + 1) x m = Bool.rec (motive := fun _ => Bool) (chk4 f (lcN x) (m ||| 1 <<< (lcN x / 65536 % 4))) true (Nat.beq m 15) := rfl
    rw [e] at h
    cases hb : Nat.beq m 15 with
    | true =>
      rw [Nat.eq_of_beq_eq_true hb]
      exact .inl (tb15 hu)
    | false =>
      rw [hb] at h
      rcases ih _ _ u hu h with h1 | ⟨i, hi, h1⟩
      · rw [Nat.testBit_or, Bool.or_eq_true, Nat.one_shiftLeft, Nat.testBit_two_pow, decide_eq_true_iff] at h1
        rcases h1 with h1 | h1
        · exact .inl h1
        · exact .inr ⟨0, by omega, h1⟩
      · rw [lcI_h] at h1
        exact .inr ⟨i + 1, by omega, h1⟩
theorem aI4 : ∀ i, aI i % 4 = 1
  | 0 => by decide
  | i + 1 => by have := aI4 i; rw [aI]; omega
theorem pick4 (hall : ∀ L, L < 65536 → chk4 61 L 0 = true) {x v : Nat} (hx : x < 4294967296) (hv : v < 4) : ∃ r, r < 61 ∧ lcI x (r + 1) / 65536 % 4 = v := by
  have hh : x / 65536 < 65536 := by omega
  have hL : x % 65536 < 65536 := by omega
  rcases chk4_ok 61 (x % 65536) 0 ((v + 4 - x / 65536 % 4) % 4) (Nat.mod_lt _ (by decide)) (hall _ hL) with h | ⟨i, hi, h⟩
  · rw [Nat.zero_testBit] at h; cases h
  · refine ⟨i, hi, ?_⟩
    have e4 := (lc_split hh hL (i + 1)).1
    rw [show 65536 * (x / 65536) + x % 65536 = x by omega] at e4
    rw [e4]
    have h4 : aI (i + 1) * (x / 65536) % 4 = x / 65536 % 4 := by rw [Nat.mul_mod, aI4, Nat.one_mul, Nat.mod_mod]
    generalize aI (i + 1) * (x / 65536) = y at h4 ⊢
    omega
def pkN (x sz t : Nat) : Nat := lcI x (t + 1) / 65536 % sz
theorem lcI_add {x : Nat} (t r : Nat) : lcI (lcI x t) r = lcI x (t + r) := by
  induction r with
  | zero => rfl
  | succ r ih => rw [lcI, ih, ← Nat.add_assoc]; simp only [lcI]
theorem lcI_lt {x : Nat} (hx : x < 4294967296) : ∀ t, lcI x t < 4294967296
  | 0 => hx
  | t + 1 => Nat.mod_lt _ (by decide)
theorem fair_of (h3 : ∀ L, L < 65536 → chk2 (mkL 61 60261) L u3 = true) (h4 : ∀ L, L < 65536 → chk4 61 L 0 = true) {x sz : Nat} (hx : x < 4294967296) (h1 : 1 ≤ sz) (h5 : sz ≤ 4) : Fair (pkN x sz) sz 61 := by
  refine ⟨fun t => Nat.mod_lt _ (by omega), fun t v hv => ?_⟩
  unfold pkN
  have hx2 := lcI_lt hx t
  have e : ∀ r, lcI x (t + r + 1) = lcI (lcI x t) (r + 1) := fun r => (lcI_add t (r + 1)).symm
  by_cases s3 : sz = 3
  · subst s3
    obtain ⟨r, hr, h⟩ := pick3 h3 hx2 hv
    exact ⟨r, hr, by rw [e]; exact h⟩
  · obtain ⟨r, hr, h⟩ := pick4 h4 hx2 (v := v) (by omega)
    refine ⟨r, hr, ?_⟩
    rw [e]
    generalize lcI (lcI x t) (r + 1) / 65536 = y at h ⊢
    have : sz = 1 ∨ sz = 2 ∨ sz = 4 := by omega
    rcases this with z | z | z
    · subst z; omega
    · subst z; omega
    · subst z; exact h
