/-! ===== the reference's run, plainly ===== -/
theorem it_ok {B : BkS} {sz bd T : Nat} {pk : Nat → Nat} {bf : Nat → Int64} (hB : BkOK B) (hb0 : 1 ≤ bd) (hb1 : bd ≤ 100) (hp : ∀ t, pk t < sz) (hall : ∀ i, i < T → (itS B bd pk (S0 bf) i).fe = false ∧ ¬ doneS B sz (itS B bd pk (S0 bf) i)) : ∀ t, t ≤ T → SOK B sz (itS B bd pk (S0 bf) t) ∧ KOK B (itS B bd pk (S0 bf) t) ∧ (itS B bd pk (S0 bf) t).T.bf = bf ∧ ((itS B bd pk (S0 bf) t).fe = false → TI B bd (itS B bd pk (S0 bf) t))
  | 0, _ => ⟨sok_0, kok_0, rfl, fun _ => ti_0 hb0⟩
  | t + 1, ht => by
    obtain ⟨s, k, b, ti⟩ := it_ok hB hb0 hb1 hp hall t (by omega)
    have hf := (hall t (by omega)).1
    have hnm : ∀ c, (itS B bd pk (S0 bf) t).nm c < 100 := fun c => Nat.lt_of_lt_of_le ((ti hf).nm c) hb1
    have e0 : itS B bd pk (S0 bf) (t + 1) = stepS B bd (itS B bd pk (S0 bf) t) (pk t) := rfl
    rw [e0]
    obtain ⟨k2, b2, _⟩ := kok_step (bd := bd) (w := pk t) s k
    exact ⟨sok_step hB s hnm, k2, b2.trans b, fun q => (step_ok (G := 0) (ti hf) hb1 (hp t) q).1⟩
theorem fin_ok {B : BkS} {sz bd T : Nat} {pk : Nat → Nat} {bf : Nat → Int64} (hB : BkOK B) (hb0 : 1 ≤ bd) (hb1 : bd ≤ 100) (hp : ∀ t, pk t < sz) (hall : ∀ i, i < T → (itS B bd pk (S0 bf) i).fe = false ∧ ¬ doneS B sz (itS B bd pk (S0 bf) i)) (hend : (itS B bd pk (S0 bf) T).fe = true ∨ doneS B sz (itS B bd pk (S0 bf) T)) : (∀ d, d < B.n → 1 ≤ (finS B (itS B bd pk (S0 bf) T)).bg d) ∧ (∀ d, d < B.n → AtOK d ((finS B (itS B bd pk (S0 bf) T)).am d)) ∧ st0 B.n (finS B (itS B bd pk (S0 bf) T)).T ∧ ((finS B (itS B bd pk (S0 bf) T)).al = sumN (finS B (itS B bd pk (S0 bf) T)).da B.n) := by
  obtain ⟨s, k, b, _⟩ := it_ok hB hb0 hb1 hp hall T (Nat.le_refl _)
  generalize itS B bd pk (S0 bf) T = S at s k b hend ⊢
  have hn := hB.n
  unfold finS
  cases hf : S.fe with
  | false =>
    have hd := hend.resolve_left (by rw [hf]; decide)
    have hbg : ∀ d, d < B.n → 1 ≤ S.bg d := fun d hdn => by
      rcases s.bg d hdn with ⟨_, z⟩ | z
      · exact absurd (Nat.lt_of_lt_of_le hdn hd.1) (Nat.not_lt_of_le z)
      · exact z
    exact ⟨hbg, fun d hdn => s.am d (Nat.lt_of_lt_of_le hdn hn) (hbg d hdn), k.st, k.da⟩
  | true =>
    refine ⟨fun d hdn => ordS_bg B.n d hdn, fun d hdn => ?_, ?_, ?_⟩
    · show AtOK d ((ordS B S B.n).am d)
      rw [ordS_am B.n d hdn]
      exact ordA_ok hB (Nat.lt_of_lt_of_le hdn hn)
    · show st0 B.n (ordS B S B.n).T
      rw [ordS_T]
      exact fun j q hj => (ordT_s B.n j q).2.1 hj
    · show (ordS B S B.n).al = sumN (ordS B S B.n).da B.n
      have key : ∀ m, m ≤ B.n → (ordS B S m).al = sumN (ordS B S m).da B.n := fun m => by
        induction m with
        | zero => intro _; exact k.da
        | succ m ih =>
          intro hm
          show (ordS B S m).al + ordK B S.T.bf m = sumN (fup (ordS B S m).da m ((ordS B S m).da m + ordK B S.T.bf m)) B.n
          have q := sumN_fup (f := (ordS B S m).da) (v := (ordS B S m).da m + ordK B S.T.bf m) (show m < B.n by clear s k; omega)
          have q2 := ih (by clear s k; omega)
          clear s k
          omega
      exact key B.n (Nat.le_refl _)
theorem wb_16 {T : TbS} {n k : Nat} (h : st0 n T) : ∀ m, wbT T k (n + m) = wbT T k n
  | 0 => rfl
  | m + 1 => by
    show (if T.st (n + m) k = 0 then wbT T k (n + m) else some (n + m)) = _
    rw [if_pos (h (n + m) k (Nat.le_add_right _ _)), wb_16 h m]
/-- the reference's run -/
theorem rm_run2 {B : BkS} {sz bd T : Nat} {u : Int32} {bf : Nat → Int64} (hB : BkOK B) (h1 : 1 ≤ sz) (h4 : sz ≤ 4) (hb0 : 1 ≤ bd) (hb1 : bd ≤ 100) (hT : T < 1000000) (hall : ∀ i, i < T → (itS B bd (pkN u.toBitVec.toNat sz) (S0 bf) i).fe = false ∧ ¬ doneS B sz (itS B bd (pkN u.toBitVec.toNat sz) (S0 bf) i)) (hend : (itS B bd (pkN u.toBitVec.toNat sz) (S0 bf) T).fe = true ∨ doneS B sz (itS B bd (pkN u.toBitVec.toNat sz) (S0 bf) T)) {σ : pST} (hbk : RMbk σ B) (hbd : σ.1 0 2 = nI bd) (hbf : ∀ k, k < 32 → σ.2 1 k = bf k) (hz : ∀ y, σ.1 22 y = 0 ∨ σ.1 22 y = 1) : ∃ τ, kX8_run σ [.inr (.inr 0), .inl (nI sz), .inl u] = some (τ, some (.inl (nI T))) ∧ RMF τ B.n (finS B (itS B bd (pkN u.toBitVec.toNat sz) (S0 bf) T)) T ∧ RMbk τ B ∧ τ.1 0 2 = nI bd ∧ (∀ y, τ.1 22 y = 0 ∨ τ.1 22 y = 1) ∧ (∀ k, k < 32 → τ.2 1 k = vaT (finS B (itS B bd (pkN u.toBitVec.toNat sz) (S0 bf) T)).T k) := by
  obtain ⟨g1, g2, g3, _⟩ := fin_ok (sz := sz) (pk := pkN u.toBitVec.toNat sz) (bf := bf) hB hb0 hb1 (fun t => Nat.mod_lt _ (by omega)) hall hend
  refine rm_run (Q := fun τ => RMF τ B.n (finS B (itS B bd (pkN u.toBitVec.toNat sz) (S0 bf) T)) T ∧ RMbk τ B ∧ τ.1 0 2 = nI bd ∧ (∀ y, τ.1 22 y = 0 ∨ τ.1 22 y = 1) ∧ (∀ k, k < 32 → τ.2 1 k = vaT (finS B (itS B bd (pkN u.toBitVec.toNat sz) (S0 bf) T)).T k)) hB h1 h4 hb0 hb1 hT hall hend hbk hbd hbf hz (fun ρ r h39 h40 => ?_)
  obtain ⟨τ, e, q1, q2, q3, q4⟩ := rm_settle hB.n r g1 g2 h39 h40
  refine ⟨τ, e, (q3 40 (by decide) (by decide)).trans h40, q1, mbk_c r.1.bk (q3 1 (by decide) (by decide)) (fun x z1 z2 => q2 x z1 (Nat.le_trans z2 (by decide))), (q3 2 (by decide) (by decide)).trans r.2.bd, ?_, fun k hk => ?_⟩
  · rw [(q2 22 (by decide) (by decide)).1]
    exact r.1.z
  · rw [q4 k hk]
    unfold vaT
    have e16 := wb_16 (k := k) g3 (16 - B.n)
    have hn := hB.n
    rw [show B.n + (16 - B.n) = 16 by clear r q1 q2 q3; omega] at e16
    rw [e16]
