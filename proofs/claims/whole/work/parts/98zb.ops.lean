/-! ===== run, inOrder ===== -/
theorem rf_c {σ ρ : pST} {n t : Nat} {S : RnS} (h : RF σ n S t) (hn : n ≤ 16) (hx : ∀ x, 8 ≤ x → x ≤ 152 → ρ.1 x = σ.1 x ∧ ρ.2 x = σ.2 x) : RF ρ n S t := by
  obtain ⟨q0, q1, q2, q3, q4, q5, q6, q7, q8, q9, q10, q11⟩ := h
  have a16 : ∀ c, c < 16 → ρ.1 (16 + 8 * c) = σ.1 (16 + 8 * c) := fun c hc => (hx _ (by clear q1 q2; omega) (by clear q1 q2; omega)).1
  refine ⟨fun c hc => by rw [a16 c hc]; exact q0 c hc, tb_c q1 fun x z1 z2 => hx x (Nat.le_trans (by decide) z1) (Nat.le_trans z2 (by decide)), fun c hc => ⟨a_c (q2 c hc).1 fun x z1 z2 => hx x (by clear q1 q2; omega) (by clear q1 q2; omega), (q2 c hc).2⟩, fun c hc => by rw [a16 c (Nat.lt_of_lt_of_le hc hn)]; exact q3 c hc, ?_, ?_, ?_, ?_, ?_, ?_, ?_, ?_⟩
  · rw [(hx 9 (by decide) (by decide)).1]; exact q4
  · rw [(hx 8 (by decide) (by decide)).1]; exact q5
  · rw [(hx 8 (by decide) (by decide)).1]; exact q6
  · rw [(hx 8 (by decide) (by decide)).1]; exact q7
  · rw [(hx 8 (by decide) (by decide)).1]; exact q8
  · rw [(hx 8 (by decide) (by decide)).1]; exact q9
  · rw [(hx 144 (by decide) (by decide)).1]; exact q10
  · rw [(hx 145 (by decide) (by decide)).1, (hx 146 (by decide) (by decide)).1]; exact q11
theorem op_7 {j : Nat} {σ τ : pST} {a : Nat → Int32} (h : InvP j σ τ) : StepP 7 j σ τ a := by
  obtain ⟨B, bf, bd, n, S, t, h⟩ := h
  rcases i32_in (N := 32) (by decide) (a 1) with hk | ⟨i, hi, ei⟩
  · exact iv_same h (r := .inr (.inl 0)) (ev_X7_inOrder_out σ hk) (ev_X8_inOrder_out τ hk) ⟨_, rfl⟩
  · obtain ⟨ρ, e1, f1, g1⟩ := rx_inOrder (bf := bf) h.ok hi h.xb h.s1 (fun k hk => (h.lf k hk).1)
    obtain ⟨μ, e2, f2, g2⟩ := rm_inOrder (bf := bf) h.ok h.mb hi (fun k hk => (h.lf k hk).2)
    obtain ⟨k1, k2, k3, k4, k5, k6, k7, k8, k9, k10, k11, k12⟩ := h
    have e1' : opX 7 σ (.inr (.inr 0) :: opA 7 a) = some (ρ, some (.inr (.inl (vaT (ordT B bf B.n) i)))) := by
      show kX7_inOrder σ [.inr (.inr 0), .inl (a 1)] = _
      rw [ei]
      exact e1
    have e2' : opM 7 τ (.inr (.inr 0) :: opA 7 a) = some (μ, some (.inr (.inl (vaT (ordT B bf B.n) i)))) := by
      show kX8_inOrder τ [.inr (.inr 0), .inl (a 1)] = _
      rw [ei]
      exact e2
    refine ⟨ρ, μ, _, e1', e2', ⟨_, rfl⟩, B, bf, bd, n, S, t, k1, Nat.le_succ_of_le k2, ?_, ?_, fun k hk => ?_, ?_, ?_, g1, k9, ?_, ?_, k12⟩
    · exact bk_c k3 fun x z1 z2 => f1 x (Nat.lt_of_le_of_lt z2 (by decide))
    · exact mbk_c k4 (by rw [f2]) fun x z1 z2 => ⟨by rw [f2], g2 x (Nat.le_trans z2 (by decide))⟩
    · rw [(f1 1 (by decide)).2, g2 1 (by decide)]; exact k5 k hk
    · rw [(f1 0 (by decide)).1, f2]; exact k6
    · rw [f2]; exact k7
    · exact rf_c k10 k9 fun x z1 z2 => f1 x (Nat.lt_of_le_of_lt z2 (by decide))
    · unfold RMF
      rw [f2, g2 34 (by decide)]
      exact k11
theorem it_cn {B : BkS} {sz bd T : Nat} {pk : Nat → Nat} {bf : Nat → Int64} (hB : BkOK B) (hb0 : 1 ≤ bd) (hb1 : bd ≤ 100) (hp : ∀ t, pk t < sz) (hall : ∀ i, i < T → (itS B bd pk (S0 bf) i).fe = false ∧ ¬ doneS B sz (itS B bd pk (S0 bf) i)) : ∀ t, t ≤ T → (itS B bd pk (S0 bf) t).cn ≤ t
  | 0, _ => Nat.le_refl _
  | t + 1, ht => by
    have ih := it_cn hB hb0 hb1 hp hall t (by omega)
    obtain ⟨s, k, _⟩ := it_ok hB hb0 hb1 hp hall t (by omega)
    have q := (kok_step (bd := bd) (w := pk t) s k).2.2
    show (stepS B bd (itS B bd pk (S0 bf) t) (pk t)).cn ≤ t + 1
    clear s k
    omega
theorem fin_cn {B : BkS} {S : RnS} : (finS B S).cn = S.cn := by
  unfold finS
  cases S.fe with
  | true => exact (ordS_o B.n).2.1
  | false => rfl
theorem op_5 {j : Nat} {σ τ : pST} {a : Nat → Int32} (hj : j < 64) (h : InvP j σ τ) : StepP 5 j σ τ a := by
  obtain ⟨B, bf, bd, n, S, t, h⟩ := h
  have hcase : (a 1 < nI 1 ∨ nI 4 < a 1) ∨ ∃ w, 1 ≤ w ∧ w ≤ 4 ∧ a 1 = nI w := by
    rcases i32_in (N := 5) (by decide) (a 1) with hk | ⟨w, hw, e⟩
    · rcases hk with hk | hk
      · exact .inl (.inl (Int32.lt_trans hk (by decide)))
      · exact .inl (.inr (Int32.lt_of_lt_of_le (by decide) hk))
    · by_cases e0 : w = 0
      · subst e0
        rw [e]
        exact .inl (.inl (by decide))
      · exact .inr ⟨w, by omega, by omega, e⟩
  rcases hcase with hk | ⟨w, h1, h4, e⟩
  · exact iv_same h (r := .inl (-1)) (ev_X7_run_out σ hk) (ev_X8_run_out τ hk) ⟨_, rfl⟩
  · obtain ⟨k1, k2, k3, k4, k5, k6, k7, k8, k9, k10, k11, k12⟩ := h
    obtain ⟨b1, b2, b3, b4⟩ := k6
    obtain ⟨T, t1, t2, t3, ρ, e1, r1, r2, r3, r4⟩ := rx_run (x := a 2) (bf := bf) k1 (by clear k3 k4 k10 k11; omega) h1 h4 b1 b2 k3 k10.s0 (fun k hk => (k5 k hk).1) b3
    obtain ⟨μ, e2, m1, m2, m3, m4, m5⟩ := rm_run2 (u := a 2) (bf := bf) k1 h1 h4 b1 b2 t1 t3 t2 k4 b4 (fun k hk => (k5 k hk).2) k7
    obtain ⟨_, _, _, g4⟩ := fin_ok (sz := w) (pk := pkN (a 2).toBitVec.toNat w) (bf := bf) k1 b1 b2 (fun q => Nat.mod_lt _ h1) t3 t2
    have e1' : opX 5 σ (.inr (.inr 0) :: opA 5 a) = some (ρ, some (.inl (nI T))) := by
      show kX7_run σ [.inr (.inr 0), .inl (a 1), .inl (a 2)] = _
      rw [e]
      exact e1
    have e2' : opM 5 τ (.inr (.inr 0) :: opA 5 a) = some (μ, some (.inl (nI T))) := by
      show kX8_run τ [.inr (.inr 0), .inl (a 1), .inl (a 2)] = _
      rw [e]
      exact e2
    refine ⟨ρ, μ, _, e1', e2', ⟨_, rfl⟩, B, vaT (finS B (itS B bd (pkN (a 2).toBitVec.toNat w) (S0 bf) T)).T, bd, B.n, finS B (itS B bd (pkN (a 2).toBitVec.toNat w) (S0 bf) T), T, k1, Nat.le_succ_of_le k2, ?_, m2, fun k hk => ⟨r2 k hk, m5 k hk⟩, ⟨b1, b2, ?_, m3⟩, m4, fun c hc => ?_, k1.n, r1, m1, g4, ?_⟩
    · exact bk_c k3 fun x z1 z2 => ⟨r3 x (.inl z2), r4 x (.inl ⟨z1, z2⟩)⟩
    · rw [r3 0 (.inl (by decide))]; exact b3
    · rw [r3 _ (.inr (by clear k3 k4 k10 k11 r1 m1; omega))]; exact k8 c hc
    · rw [fin_cn]
      have q := it_cn (sz := w) (pk := pkN (a 2).toBitVec.toNat w) (bf := bf) k1 b1 b2 (fun q => Nat.mod_lt _ h1) t3 T (Nat.le_refl _)
      exact Nat.le_trans q (Nat.le_of_lt t1)
