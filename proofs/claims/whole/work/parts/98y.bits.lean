/-! ===== Integer.bitCount ===== -/
def cbN (x : Nat) : Nat → Nat
  | 0 => 0
  | k + 1 => cbN x k + (cond (x.testBit k) 1 0)
theorem cbN_c {x y : Nat} : ∀ m, (∀ k, k < m → x.testBit k = y.testBit k) → cbN x m = cbN y m
  | 0, _ => rfl
  | m + 1, h => by
    unfold cbN
    rw [cbN_c m fun k hk => h k (by omega), h m (by omega)]
theorem cbN_add {x n : Nat} : ∀ m, cbN x (n + m) = cbN x n + cbN (x / 2 ^ n) m
  | 0 => rfl
  | m + 1 => by
    show cbN x (n + m) + (cond (x.testBit (n + m)) 1 0) = cbN x n + (cbN (x / 2 ^ n) m + (cond ((x / 2 ^ n).testBit m) 1 0))
    rw [cbN_add m, Nat.testBit_div_two_pow, Nat.add_comm m n, Nat.add_assoc]
theorem cbN_b {a b m : Nat} (ha : a < 256) : cbN (a + 256 * b) (8 + m) = cbN a 8 + cbN b m := by
  rw [cbN_add, show (a + 256 * b) / 2 ^ 8 = b by omega]
  congr 1
  refine cbN_c 8 fun k hk => ?_
  have w1 : (a + 256 * b) % 2 ^ 8 = a := by omega
  have w2 := Nat.testBit_mod_two_pow (a + 256 * b) 8 k
  rw [w1, decide_eq_true hk, Bool.true_and] at w2
  exact w2.symm
def hq1 (h : Nat) : Nat := h - (h / 2 &&& 85)
def hq2 (h : Nat) : Nat := (hq1 h &&& 51) + (hq1 h / 4 &&& 51)
def hq3 (h : Nat) : Nat := (hq2 h + hq2 h / 16 &&& 15)
theorem byt_1 : ∀ h, h < 256 → (h / 2 &&& 85) ≤ h ∧ ((h / 2 + 128 * 1) &&& 85) = (h / 2 &&& 85) ∧ hq1 h < 256 := by decide +kernel
theorem byt_2 : ∀ h, h < 256 → ∀ t, t < 4 → ((hq1 h / 4 + 64 * t) &&& 51) = (hq1 h / 4 &&& 51) := by decide +kernel
theorem byt_3 : ∀ h, h < 256 → hq2 h ≤ 68 ∧ hq2 h % 16 ≤ 4 ∧ hq3 h ≤ 8 ∧ hq3 h = cbN h 8 := by decide +kernel
theorem byt_4 : ∀ h, h < 256 → ∀ t, t < 5 → ((hq2 h + hq2 h / 16 + 16 * t) &&& 15) = hq3 h := by decide +kernel
theorem byt_t {h t : Nat} (hh : h < 256) (ht : t < 2) : ((h / 2 + 128 * t) &&& 85) = (h / 2 &&& 85) := by
  match t, ht with
  | 0, _ => rfl
  | 1, _ => exact (byt_1 h hh).2.1
theorem land_b {a b c d : Nat} (ha : a < 256) (hc : c < 256) : ((a + 256 * b) &&& (c + 256 * d)) = (a &&& c) + 256 * (b &&& d) := by
  have h1 : ((a + 256 * b) &&& (c + 256 * d)) % 2 ^ 8 = (a &&& c) := by
    rw [Nat.and_mod_two_pow, show (a + 256 * b) % 2 ^ 8 = a by omega, show (c + 256 * d) % 2 ^ 8 = c by omega]
  have h2 : ((a + 256 * b) &&& (c + 256 * d)) / 2 ^ 8 = (b &&& d) := by
    rw [← Nat.shiftRight_eq_div_pow, Nat.shiftRight_and_distrib, Nat.shiftRight_eq_div_pow, Nat.shiftRight_eq_div_pow, show (a + 256 * b) / 2 ^ 8 = b by omega, show (c + 256 * d) / 2 ^ 8 = d by omega]
  have h3 := Nat.div_add_mod ((a + 256 * b) &&& (c + 256 * d)) (2 ^ 8)
  rw [h1, h2] at h3
  omega
theorem land_4 {a b c d m : Nat} (ha : a < 256) (hb : b < 256) (hc : c < 256) (hm : m < 256) : ((a + 256 * (b + 256 * (c + 256 * d))) &&& (m + 256 * (m + 256 * (m + 256 * m)))) = (a &&& m) + 256 * ((b &&& m) + 256 * ((c &&& m) + 256 * (d &&& m))) := by
  rw [land_b ha hm, land_b hb hm, land_b hc hm]
theorem sum_4 {a b c d s4 s5 : Nat} (ha : a ≤ 8) (hb : b ≤ 8) (hc : c ≤ 8) (hd : d ≤ 8) (e4 : s4 = (a + 256 * (b + 256 * (c + 256 * d))) + (a + 256 * (b + 256 * (c + 256 * d))) / 256) (e5 : s5 = s4 + s4 / 65536) : s4 < 4294967296 ∧ s5 < 4294967296 ∧ s5 % 64 = a + b + c + d := by
  have h1 : (a + 256 * (b + 256 * (c + 256 * d))) / 256 = b + 256 * (c + 256 * d) := by omega
  rw [h1] at e4
  have h2 : s4 = (a + b) + 256 * (b + c) + 65536 * ((c + d) + 256 * d) := by omega
  have h3 : s4 / 65536 = (c + d) + 256 * d := by omega
  rw [h3] at e5
  have h4 : s5 = (a + b + c + d) + 64 * (4 * (b + c) + 4 * d + 1024 * ((c + d) + 256 * d)) := by omega
  refine ⟨by omega, by omega, ?_⟩
  rw [h4, Nat.add_mul_mod_self_left]
  exact Nat.mod_eq_of_lt (by omega)
/-- the sums of bitCount, over naturals -/
theorem bits_n {X : Nat} (hX : X < 4294967296) {s1 s2 s3 s4 s5 : Nat} (e1 : s1 = X - (X / 2 &&& 1431655765)) (e2 : s2 = (s1 &&& 858993459) + (s1 / 4 &&& 858993459)) (e3 : s3 = (s2 + s2 / 16 &&& 252645135)) (e4 : s4 = s3 + s3 / 256) (e5 : s5 = s4 + s4 / 65536) : (X / 2 &&& 1431655765) ≤ X ∧ s2 < 4294967296 ∧ s2 + s2 / 16 < 4294967296 ∧ s4 < 4294967296 ∧ s5 < 4294967296 ∧ s5 % 64 = cbN X 32 := by
  obtain ⟨a, b, c, d, rfl, ha, hb, hc, hd⟩ : ∃ a b c d, X = a + 256 * (b + 256 * (c + 256 * d)) ∧ a < 256 ∧ b < 256 ∧ c < 256 ∧ d < 256 := ⟨X % 256, X / 256 % 256, X / 65536 % 256, X / 16777216, by omega, by omega, by omega, by omega, by omega⟩
  obtain ⟨a1, _, a2⟩ := byt_1 a ha
  obtain ⟨b1, _, b2⟩ := byt_1 b hb
  obtain ⟨c1, _, c2⟩ := byt_1 c hc
  obtain ⟨d1, _, d2⟩ := byt_1 d hd
  obtain ⟨a3, a4, a5, a6⟩ := byt_3 a ha
  obtain ⟨b3, b4, b5, b6⟩ := byt_3 b hb
  obtain ⟨c3, c4, c5, c6⟩ := byt_3 c hc
  obtain ⟨d3, d4, d5, d6⟩ := byt_3 d hd
  have f1 : ((a + 256 * (b + 256 * (c + 256 * d))) / 2 &&& 1431655765) = (a / 2 &&& 85) + 256 * ((b / 2 &&& 85) + 256 * ((c / 2 &&& 85) + 256 * (d / 2 &&& 85))) := by
    rw [show (a + 256 * (b + 256 * (c + 256 * d))) / 2 = (a / 2 + 128 * (b % 2)) + 256 * ((b / 2 + 128 * (c % 2)) + 256 * ((c / 2 + 128 * (d % 2)) + 256 * (d / 2))) by omega, show (1431655765 : Nat) = 85 + 256 * (85 + 256 * (85 + 256 * 85)) by decide, land_4 (by omega) (by omega) (by omega) (by decide), byt_t ha (Nat.mod_lt _ (by decide)), byt_t hb (Nat.mod_lt _ (by decide)), byt_t hc (Nat.mod_lt _ (by decide))]
  have g1 : s1 = hq1 a + 256 * (hq1 b + 256 * (hq1 c + 256 * hq1 d)) := by
    rw [e1, f1]
    unfold hq1
    omega
  have f2 : (s1 &&& 858993459) = (hq1 a &&& 51) + 256 * ((hq1 b &&& 51) + 256 * ((hq1 c &&& 51) + 256 * (hq1 d &&& 51))) := by
    rw [g1, show (858993459 : Nat) = 51 + 256 * (51 + 256 * (51 + 256 * 51)) by decide, land_4 a2 b2 c2 (by decide)]
  have f3 : (s1 / 4 &&& 858993459) = (hq1 a / 4 &&& 51) + 256 * ((hq1 b / 4 &&& 51) + 256 * ((hq1 c / 4 &&& 51) + 256 * (hq1 d / 4 &&& 51))) := by
    rw [g1, show (hq1 a + 256 * (hq1 b + 256 * (hq1 c + 256 * hq1 d))) / 4 = (hq1 a / 4 + 64 * (hq1 b % 4)) + 256 * ((hq1 b / 4 + 64 * (hq1 c % 4)) + 256 * ((hq1 c / 4 + 64 * (hq1 d % 4)) + 256 * (hq1 d / 4))) by omega, show (858993459 : Nat) = 51 + 256 * (51 + 256 * (51 + 256 * 51)) by decide, land_4 (by omega) (by omega) (by omega) (by decide), byt_2 a ha _ (Nat.mod_lt _ (by decide)), byt_2 b hb _ (Nat.mod_lt _ (by decide)), byt_2 c hc _ (Nat.mod_lt _ (by decide))]
  have g2 : s2 = hq2 a + 256 * (hq2 b + 256 * (hq2 c + 256 * hq2 d)) := by
    rw [e2, f2, f3]
    unfold hq2
    omega
  have g3 : s3 = hq3 a + 256 * (hq3 b + 256 * (hq3 c + 256 * hq3 d)) := by
    have q := byt_4 d hd 0 (by decide)
    rw [Nat.mul_zero, Nat.add_zero] at q
    rw [e3, g2, show hq2 a + 256 * (hq2 b + 256 * (hq2 c + 256 * hq2 d)) + (hq2 a + 256 * (hq2 b + 256 * (hq2 c + 256 * hq2 d))) / 16 = (hq2 a + hq2 a / 16 + 16 * (hq2 b % 16)) + 256 * ((hq2 b + hq2 b / 16 + 16 * (hq2 c % 16)) + 256 * ((hq2 c + hq2 c / 16 + 16 * (hq2 d % 16)) + 256 * (hq2 d + hq2 d / 16))) by omega, show (252645135 : Nat) = 15 + 256 * (15 + 256 * (15 + 256 * 15)) by decide, land_4 (by omega) (by omega) (by omega) (by decide), byt_4 a ha _ (by omega), byt_4 b hb _ (by omega), byt_4 c hc _ (by omega), q]
  have hcb : cbN (a + 256 * (b + 256 * (c + 256 * d))) 32 = hq3 a + hq3 b + hq3 c + hq3 d := by
    rw [show (32 : Nat) = 8 + (8 + (8 + (8 + 0))) by decide, cbN_b ha, cbN_b hb, cbN_b hc, a6, b6, c6, d6]
    show _ + (_ + (_ + cbN d 8)) = _
    omega
  have hs2 : s2 < 4294967296 ∧ s2 + s2 / 16 < 4294967296 := by
    clear e1 e2 e3 e4 e5 f1 f2 f3 g1 g3
    omega
  rw [g3] at e4
  obtain ⟨w1, w2, w3⟩ := sum_4 a5 b5 c5 d5 e4 e5
  refine ⟨?_, hs2.1, hs2.2, w1, w2, by rw [hcb, w3]⟩
  rw [f1]
  clear e1 e2 e3 e4 e5 f1 f2 f3 g1 g2 g3
  omega
