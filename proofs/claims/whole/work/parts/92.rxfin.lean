/-! ===== the class at the end of a run ===== -/
theorem rem_n {a s : Nat} (ha : a < 2 ^ 31) (hs : s < 2 ^ 31) : nI a - nI a / nI s * nI s = nI (a % s) := by
  unfold nI
  rw [← Int32.ofNat_div ha hs, ← Int32.ofNat_mul, ← Int32.ofNat_sub _ _ (Nat.div_mul_le_self a s)]
  congr 1
  have := Nat.div_add_mod a s
  rw [Nat.mul_comm] at this
  omega
theorem uw_t {σ : pST} {B : BkS} {sz bd : Nat} {S : RnS} {v : Int32} (h : RXw σ B sz bd S) : RXw (pm_ui (σ.1) 8 2 v, σ.2) B sz bd S := by
  have e : ∀ y, y ≠ 2 → pm_ui (σ.1) 8 2 v 8 y = σ.1 8 y := fun y hy => by rw [pm_ui_a, if_neg (fun z => hy z.2)]
  obtain ⟨k1, k2, k3, k4, k5, k6, k7, k8, k9, k10, k11, k12, k13, k14, k15, k16, k17⟩ := h
  refine ⟨?_, ?_, ?_, ?_, fun z => ?_, ?_, ?_, ?_, ?_, fun c hc => ?_, fun c hc z => ?_, fun c hc => ?_, fun w hw => ?_, fun w hw z => ?_, fun w hw z => ?_, ?_, fun i hi z => ?_⟩
  all_goals dsimp only
  · rw [ui_o (by decide)]; exact k1
  · rw [e _ (by decide)]; exact k2
  · rw [e _ (by decide)]; exact k3
  · rw [e _ (by decide)]; exact k4
  · rw [e _ (by decide)]; exact k5 z
  · rw [e _ (by decide)]; exact k6
  · rw [e _ (by decide)]; exact k7
  · rw [e _ (by decide)]; exact k8
  · rw [e _ (by decide)]; exact k9
  · rw [ui_o (by decide)]; exact k10 c hc
  · rw [ui_o (by decide)]; exact k11 c hc z
  · rw [ui_o (by decide)]; exact k12 c hc
  · rw [ui_o (by decide)]; exact k13 w hw
  · rw [ui_o (by decide)]; exact k14 w hw z
  · rw [ui_o (by decide)]; exact k15 w hw z
  · rw [ui_o (by decide)]; exact k16
  · rw [ui_o (by decide), ui_o (by decide)]; exact k17 i hi z
theorem rx_t {σ : pST} {B : BkS} {sz bd : Nat} {S : RnS} {v : Int32} (h : RX σ B sz bd S) : RX (pm_ui (σ.1) 8 2 v, σ.2) B sz bd S := ⟨b_w (σ := σ) h.1 fun x z1 z2 z3 z4 => ui_o z3, uw_t h.2⟩
def finS (B : BkS) (S : RnS) : RnS := cond S.fe (ordS B S B.n) S
abbrev RF (σ : pST) (n : Nat) (S : RnS) (t : Nat) : Prop := (∀ c, c < 16 → σ.1 (16 + 8 * c) 0 = nI c) ∧ (RXtb σ 10 S.T 16) ∧ (∀ c, c < n → RXa σ S c ∧ 1 ≤ S.bg c ∧ AtOK c (S.am c)) ∧ (∀ c, c < n → σ.1 (16 + 8 * c) 7 = nI (grpL S.am n 32 c)) ∧ (σ.1 9 2 = nI n) ∧ (σ.1 8 2 = nI t) ∧ (σ.1 8 6 = cond S.fe 1 0) ∧ (σ.1 8 3 = nI S.lk) ∧ (σ.1 8 4 = nI S.ud) ∧ (σ.1 8 5 = nI S.gu) ∧ (σ.1 144 0 = nI S.cn) ∧ (∀ i, i < 200 → i < S.cn → σ.1 145 i = nI (S.cc i) ∧ σ.1 146 i = oI (S.co i))
theorem RF.s0 {σ : pST} {n : Nat} {S : RnS} {t : Nat} (h : RF σ n S t) : ∀ c, c < 16 → σ.1 (16 + 8 * c) 0 = nI c := h.1
theorem RF.tb {σ : pST} {n : Nat} {S : RnS} {t : Nat} (h : RF σ n S t) : RXtb σ 10 S.T 16 := h.2.1
theorem RF.a {σ : pST} {n : Nat} {S : RnS} {t : Nat} (h : RF σ n S t) : ∀ c, c < n → RXa σ S c ∧ 1 ≤ S.bg c ∧ AtOK c (S.am c) := h.2.2.1
theorem RF.g {σ : pST} {n : Nat} {S : RnS} {t : Nat} (h : RF σ n S t) : ∀ c, c < n → σ.1 (16 + 8 * c) 7 = nI (grpL S.am n 32 c) := h.2.2.2.1
theorem RF.n {σ : pST} {n : Nat} {S : RnS} {t : Nat} (h : RF σ n S t) : σ.1 9 2 = nI n := h.2.2.2.2.1
theorem RF.t {σ : pST} {n : Nat} {S : RnS} {t : Nat} (h : RF σ n S t) : σ.1 8 2 = nI t := h.2.2.2.2.2.1
theorem RF.fe {σ : pST} {n : Nat} {S : RnS} {t : Nat} (h : RF σ n S t) : σ.1 8 6 = cond S.fe 1 0 := h.2.2.2.2.2.2.1
theorem RF.lk {σ : pST} {n : Nat} {S : RnS} {t : Nat} (h : RF σ n S t) : σ.1 8 3 = nI S.lk := h.2.2.2.2.2.2.2.1
theorem RF.ud {σ : pST} {n : Nat} {S : RnS} {t : Nat} (h : RF σ n S t) : σ.1 8 4 = nI S.ud := h.2.2.2.2.2.2.2.2.1
theorem RF.gu {σ : pST} {n : Nat} {S : RnS} {t : Nat} (h : RF σ n S t) : σ.1 8 5 = nI S.gu := h.2.2.2.2.2.2.2.2.2.1
theorem RF.cn {σ : pST} {n : Nat} {S : RnS} {t : Nat} (h : RF σ n S t) : σ.1 144 0 = nI S.cn := h.2.2.2.2.2.2.2.2.2.2.1
theorem RF.cf {σ : pST} {n : Nat} {S : RnS} {t : Nat} (h : RF σ n S t) : ∀ i, i < 200 → i < S.cn → σ.1 145 i = nI (S.cc i) ∧ σ.1 146 i = oI (S.co i) := h.2.2.2.2.2.2.2.2.2.2.2
theorem grI_at {I : Nat → Nat → Int32} {J : Nat → Nat → Int64} {b n c : Nat} {L : Nat → Nat} {A : AtS} (h : RXat (I, J) (b + 7 + 8 * c) c A) : RXat (grI I b n L, J) (b + 7 + 8 * c) c A := by
  have e5 : ∀ q, 0 < q → q < 8 → grI I b n L (b + 7 + 8 * c + q) = I (b + 7 + 8 * c + q) := fun q h1 h2 => by
    funext y
    exact if_neg (by clear h; omega)
  obtain ⟨k1, k2, k3, k4, k5, k6, k7, k8, k9, k10, k11⟩ := h
  refine ⟨?_, ?_, ?_, ?_, ?_, k6, fun k hk => ?_, k8, k9, fun i hi => ?_, fun k hk => ?_⟩
  · exact (grI_o (by decide)).trans k1
  · exact (grI_o (by decide)).trans k2
  · exact (grI_o (by decide)).trans k3
  · exact (grI_o (by decide)).trans k4
  · exact (grI_o (by decide)).trans k5
  · show (grI I b n L (b + 7 + 8 * c) 12).toBitVec.getLsbD k = _
    rw [grI_o (by decide)]
    exact k7 k hk
  · show grI I b n L (b + 7 + 8 * c + 5) i = _ ∧ grI I b n L (b + 7 + 8 * c + 6) i = _ ∧ grI I b n L (b + 7 + 8 * c + 7) i = _ ∧ _
    rw [e5 5 (by decide) (by decide), e5 6 (by decide) (by decide), e5 7 (by decide) (by decide)]
    exact k10 i hi
  · show (grI I b n L (b + 7 + 8 * c) 11).toBitVec.getLsbD k = true ↔ _
    rw [grI_o (by decide)]
    exact k11 k hk
theorem grI_x {I : Nat → Nat → Int32} {n x : Nat} {L : Nat → Nat} (hn : n ≤ 16) (h : x < 16 ∨ 143 < x) : grI I 9 n L x = I x := by
  funext y
  exact if_neg (by omega)
theorem rf_grp {σ : pST} {n t : Nat} {S : RnS} (hn : n ≤ 16) (s0 : ∀ c, c < 16 → σ.1 (16 + 8 * c) 0 = nI c) (tb : RXtb σ 10 S.T 16) (a : ∀ c, c < n → RXa σ S c ∧ 1 ≤ S.bg c ∧ AtOK c (S.am c)) (hn2 : σ.1 9 2 = nI n) (ht : σ.1 8 2 = nI t) (fe : σ.1 8 6 = cond S.fe 1 0) (lk : σ.1 8 3 = nI S.lk) (ud : σ.1 8 4 = nI S.ud) (gu : σ.1 8 5 = nI S.gu) (cn : σ.1 144 0 = nI S.cn) (cf : ∀ i, i < 200 → i < S.cn → σ.1 145 i = nI (S.cc i) ∧ σ.1 146 i = oI (S.co i)) : RF (grI σ.1 9 n (grpL S.am n 32), σ.2) n S t := by
  refine ⟨fun c hc => (grI_o (by decide)).trans (s0 c hc), tb_c tb fun x z1 z2 => ⟨grI_x hn (.inl (Nat.lt_of_le_of_lt z2 (by decide))), rfl⟩, fun c hc => ?_, fun c hc => grI_r (b := 9) hc, ?_, ?_, ?_, ?_, ?_, ?_, ?_, fun i h1 h2 => ?_⟩
  · obtain ⟨⟨q1, q2, q3, q4⟩, q5, q6⟩ := a c hc
    refine ⟨⟨?_, ?_, ?_, fun z => ⟨grI_at (b := 9) (q4 z).1, ?_⟩⟩, q5, q6⟩
    · exact (grI_o (by decide)).trans q1
    · exact (grI_o (by decide)).trans q2
    · exact (grI_o (by decide)).trans q3
    · exact (grI_o (by decide)).trans (q4 z).2
  · show grI σ.1 9 n (grpL S.am n 32) 9 2 = _
    rw [grI_x hn (by decide)]; exact hn2
  · show grI σ.1 9 n (grpL S.am n 32) 8 2 = _
    rw [grI_x hn (by decide)]; exact ht
  · show grI σ.1 9 n (grpL S.am n 32) 8 6 = _
    rw [grI_x hn (by decide)]; exact fe
  · show grI σ.1 9 n (grpL S.am n 32) 8 3 = _
    rw [grI_x hn (by decide)]; exact lk
  · show grI σ.1 9 n (grpL S.am n 32) 8 4 = _
    rw [grI_x hn (by decide)]; exact ud
  · show grI σ.1 9 n (grpL S.am n 32) 8 5 = _
    rw [grI_x hn (by decide)]; exact gu
  · show grI σ.1 9 n (grpL S.am n 32) 144 0 = _
    rw [grI_x hn (by decide)]; exact cn
  · show grI σ.1 9 n (grpL S.am n 32) 145 i = _ ∧ grI σ.1 9 n (grpL S.am n 32) 146 i = _
    rw [grI_x hn (by decide), grI_x hn (by decide)]; exact cf i h1 h2
/-- the latest bench, run in order after it fell -/
theorem ox_rx {σ : pST} {B : BkS} {sz bd : Nat} {S : RnS} (h : RX σ B sz bd S) : OX σ σ 9 B S 0 :=
  ⟨h.1.bk, rfl, ⟨fun _ _ _ z => absurd z (Nat.not_lt_zero _), fun _ _ _ z => absurd z (Nat.not_lt_zero _), fun k hk => h.1.tb.bf k hk⟩, fun _ _ _ _ _ => rfl, fun d hd => h.1.a d hd, fun _ _ => ⟨rfl, rfl⟩⟩
theorem ox_tb {σ0 σ : pST} {b : Nat} {B : BkS} {S : RnS} (hn : B.n ≤ 16) (h : OX σ0 σ b B S B.n) (hz : ∀ k j, k < 32 → B.n ≤ j → j < 16 → σ0.1 (b + 3) (k * 16 + j) = 0) : RXtb σ (b + 1) (ordT B S.T.bf B.n) 16 := by
  refine ⟨fun k j hk hj => ?_, fun k j hk hj hs => ?_, h.tb.bf⟩
  · by_cases e : j < B.n
    · exact h.tb.st k j hk e
    · have e2 : (ordT B S.T.bf B.n).st j k = 0 := (ordT_s B.n j k).2.1 (Nat.le_of_not_lt e)
      rw [e2]
      exact ⟨(h.zz k j hk (Nat.le_of_not_lt e) hj).trans (hz k j hk (Nat.le_of_not_lt e) hj), Nat.zero_le _⟩
  · by_cases e : j < B.n
    · exact h.tb.nv k j hk e hs
    · exact absurd ((ordT_s B.n j k).2.1 (Nat.le_of_not_lt e)) hs
theorem ordS_am {B : BkS} {S : RnS} : ∀ c d, d < c → (ordS B S c).am d = ordA B S.T.bf d
  | 0, d, h => absurd h (Nat.not_lt_zero _)
  | c + 1, d, h => by
    show fup (ordS B S c).am c (ordA B S.T.bf c) d = _
    by_cases e : d = c
    · subst e; rw [fup_s]
    · rw [fup_n e]; exact ordS_am c d (by omega)
theorem ordA_ok {B : BkS} {bf : Nat → Int64} {c : Nat} (hB : BkOK B) (hc : c < 16) : AtOK c (ordA B bf c) := runA_ok hB hc 12 at0 (at0_ok c)
