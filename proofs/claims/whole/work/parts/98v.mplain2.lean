/-! ===== inOrder of the reference, as a whole ===== -/
theorem va_n {B : BkS} {bf : Nat → Int64} {k : Nat} (hn : B.n ≤ 16) : vaT (ordT B bf B.n) k = svT (ordT B bf B.n) k (wbT (ordT B bf B.n) k B.n) := by
  have g3 : st0 B.n (ordT B bf B.n) := fun j q hj => (ordT_s B.n j q).2.1 hj
  have e16 := wb_16 (k := k) g3 (16 - B.n)
  rw [show B.n + (16 - B.n) = 16 by omega] at e16
  unfold vaT
  rw [e16]
set_option maxRecDepth 100000 in
theorem lp_X8_inOrder {σ : pST} {B : BkS} {bf : Nat → Int64} {k : Nat} (hB : BkOK B) (hbk : RMbk σ B) (hk : k < 32) : ∀ (m i : Nat) (f g r : Nat → Int64), i + m = B.n → (∀ l, l < 32 → f l = svT (ordT B bf i) l (wbT (ordT B bf i) l i)) → pR shM tX8_inOrder fX8_inOrder qX8_inOrder lX8_inOrder 10 3 (fun x => x.2 = some (.inr (.inl (vaT (ordT B bf B.n) k))) ∧ x.1.1 = σ.1 ∧ ∀ z, z ≤ 40 → x.1.2 z = σ.2 z) 40 [(2, .inl (nI i)), (1, .inl (nI k)), (0, .inr (.inr 0))] [] (σ.1, plJ σ.2 f g r) := by
  have hn := hB.n
  intro m
  induction m with
  | zero =>
    intro i f g r hi hv
    refine pr_iload_n tX8_inOrder_40 0 rfl ?_
    refine pr_aload_n tX8_inOrder_41 2 rfl ?_
    refine pr_get0 tX8_inOrder_42 rfl rfl rfl ?_
    refine pR_topi (y := (nI B.n)) (hbk.n) ?_
    refine pr_ic_ge (pc' := 424) tX8_inOrder_45 rfl (fun hc45 => ?_) (fun hc45 => ?_)
    · skip
      have hc45 : B.n ≤ i := (nI_leI (by omega) (by omega)).mp hc45
      refine pr_aload_n tX8_inOrder_424 2 rfl ?_
      refine pr_geta (j := 41) tX8_inOrder_425 rfl rfl rfl rfl ?_
      refine pr_iload_n tX8_inOrder_428 1 rfl ?_
      refine pr_lal tX8_inOrder_429 k rfl rfl (by omega) (by decide) ?_
      refine pR_topl (y := vaT (ordT B bf B.n) k) ((pl_r1 (J := σ.2) (f := f) (g := g) (r := r) hk).trans (by have ei : i = B.n := (by omega); subst ei; rw [hv k hk]; exact (va_n hB.n).symm)) ?_
      refine pr_lret tX8_inOrder_430 rfl ?_
      exact ⟨rfl, rfl, fun z hz => pl_o hz⟩
    · skip
      exact absurd ((nI_leI (by omega) (by omega)).mpr (by omega)) hc45
  | succ m ih =>
    intro i f g r hi hv
    have hin : i < B.n := by omega
    have hi16 : i < 16 := by omega
    refine pr_iload_n tX8_inOrder_40 0 rfl ?_
    refine pr_aload_n tX8_inOrder_41 2 rfl ?_
    refine pr_get0 tX8_inOrder_42 rfl rfl rfl ?_
    refine pR_topi (y := (nI B.n)) (hbk.n) ?_
    refine pr_ic_ge (pc' := 424) tX8_inOrder_45 rfl (fun hc45 => ?_) (fun hc45 => ?_)
    · skip
      exact absurd ((nI_leI (by omega) (by omega)).mp hc45) (by omega)
    · skip
      have hc45 : ¬ B.n ≤ i := fun z9 => hc45 ((nI_leI (by omega) (by omega)).mpr z9)
      refine pr_iconst (v := nI 0) tX8_inOrder_48 rfl ?_
      refine pr_istore_n (L' := [(3, .inl (nI 0)), (2, .inl (nI i)), (1, .inl (nI k)), (0, .inr (.inr 0))]) tX8_inOrder_49 (by decide) rfl ?_
      refine pR_sub (L' := [(3, .inl (nI 0)), (2, .inl (nI i)), (1, .inl (nI k)), (0, .inr (.inr 0))]) [0, 1, 2, 3] rfl ?_
      refine p2_X8_inOrder (fun g1 hg1 => ?_) 32 0 g (Nat.zero_add _) (fun l hl => absurd hl (Nat.not_lt_zero _))
      refine pr_iconst (v := nI 0) tX8_inOrder_74 rfl ?_
      refine pr_istore_n (L' := [(3, .inl (nI 0)), (2, .inl (nI i)), (1, .inl (nI k)), (0, .inr (.inr 0))]) tX8_inOrder_75 (by decide) rfl ?_
      refine pR_sub (L' := [(3, .inl (nI 0)), (2, .inl (nI i)), (1, .inl (nI k)), (0, .inr (.inr 0))]) [0, 1, 2, 3] rfl ?_
      refine p3_X8_inOrder (fun r1 hr1 => ?_) 4 0 r (Nat.zero_add _) (fun l hl => absurd hl (Nat.not_lt_zero _))
      refine pr_iconst (v := nI 0) tX8_inOrder_94 rfl ?_
      refine pr_istore_n (L' := [(3, .inl (nI 0)), (2, .inl (nI i)), (1, .inl (nI k)), (0, .inr (.inr 0))]) tX8_inOrder_95 (by decide) rfl ?_
      refine pr_iconst (v := nI 0) tX8_inOrder_96 rfl ?_
      refine pr_istore (L' := [(4, .inl (nI 0)), (3, .inl (nI 0)), (2, .inl (nI i)), (1, .inl (nI k)), (0, .inr (.inr 0))]) tX8_inOrder_97 (by decide) rfl ?_
      refine pR_sub (L' := [(4, .inl (nI 0)), (3, .inl (nI 0)), (2, .inl (nI i)), (1, .inl (nI k)), (0, .inr (.inr 0))]) [0, 1, 2, 3, 4] rfl ?_
      refine p4_X8_inOrder (T := ordT B bf i) hB hbk hin ord_nph 12 at0 g1 r1 ⟨fun q hq => hr1 q hq, fun l hl => (hg1 l hl).trans (hv l hl), fun q hq => absurd (show q < 0 from hq) (Nat.not_lt_zero _)⟩ (at0_ok i) (hB.ac i hi16) (fun g2 r2 hpi => ?_)
      show pR shM tX8_inOrder fX8_inOrder qX8_inOrder lX8_inOrder 10 3 (fun x => x.2 = some (.inr (.inl (vaT (ordT B bf B.n) k))) ∧ x.1.1 = σ.1 ∧ ∀ z, z ≤ 40 → x.1.2 z = σ.2 z) 384 [(3, .inl (nI (cond (ordA B bf i).fl 1 0))), (2, .inl (nI i)), (1, .inl (nI k)), (0, .inr (.inr 0))] [] (σ.1, plJ σ.2 f g2 r2)
      have hpi : PIv (fun k => svT (ordT B bf i) k (wbT (ordT B bf i) k i)) g2 r2 (ordA B bf i) := hpi
      cases hfl : (ordA B bf i).fl with
      | true =>
        show pR shM tX8_inOrder fX8_inOrder qX8_inOrder lX8_inOrder 10 3 (fun x => x.2 = some (.inr (.inl (vaT (ordT B bf B.n) k))) ∧ x.1.1 = σ.1 ∧ ∀ z, z ≤ 40 → x.1.2 z = σ.2 z) 384 [(3, .inl (nI 1)), (2, .inl (nI i)), (1, .inl (nI k)), (0, .inr (.inr 0))] [] (σ.1, plJ σ.2 f g2 r2)
        refine pr_iconst (v := nI 0) tX8_inOrder_384 rfl ?_
        refine pr_istore (L' := [(5, .inl (nI 0)), (3, .inl (nI 1)), (2, .inl (nI i)), (1, .inl (nI k)), (0, .inr (.inr 0))]) tX8_inOrder_385 (by decide) rfl ?_
        refine pR_sub (L' := [(5, .inl (nI 0)), (3, .inl (nI 1)), (2, .inl (nI i)), (1, .inl (nI k)), (0, .inr (.inr 0))]) [0, 1, 2, 3, 4] rfl ?_
        refine p6_X8_inOrder ?_
        have hv2 : ∀ l, l < 32 → f l = svT (ordT B bf (i + 1)) l (wbT (ordT B bf (i + 1)) l (i + 1)) := fun l hl => by rw [pi_next hpi.2.1 l hl, hfl, if_pos rfl]; exact hv l hl
        refine pr_iinc (v := (nI (i + 1))) (L' := [(2, .inl (nI (i + 1))), (1, .inl (nI k)), (0, .inr (.inr 0))]) tX8_inOrder_418 0 rfl (nI_1 _) (by decide) rfl ?_
        refine pr_goto (pc' := 40) tX8_inOrder_421 rfl ?_
        refine pR_sub (L' := [(2, .inl (nI (i + 1))), (1, .inl (nI k)), (0, .inr (.inr 0))]) [0, 1, 2] rfl ?_
        exact ih (i + 1) f g2 r2 (by omega) hv2
      | false =>
        show pR shM tX8_inOrder fX8_inOrder qX8_inOrder lX8_inOrder 10 3 (fun x => x.2 = some (.inr (.inl (vaT (ordT B bf B.n) k))) ∧ x.1.1 = σ.1 ∧ ∀ z, z ≤ 40 → x.1.2 z = σ.2 z) 384 [(3, .inl (nI 0)), (2, .inl (nI i)), (1, .inl (nI k)), (0, .inr (.inr 0))] [] (σ.1, plJ σ.2 f g2 r2)
        refine pr_iconst (v := nI 0) tX8_inOrder_384 rfl ?_
        refine pr_istore (L' := [(5, .inl (nI 0)), (3, .inl (nI 0)), (2, .inl (nI i)), (1, .inl (nI k)), (0, .inr (.inr 0))]) tX8_inOrder_385 (by decide) rfl ?_
        refine pR_sub (L' := [(5, .inl (nI 0)), (3, .inl (nI 0)), (2, .inl (nI i)), (1, .inl (nI k)), (0, .inr (.inr 0))]) [0, 1, 2, 3, 4] rfl ?_
        refine p5_X8_inOrder (fun f2 hf2 => ?_) 32 0 f (Nat.zero_add _) (fun l hl => absurd hl (Nat.not_lt_zero _))
        have hv2 : ∀ l, l < 32 → f2 l = svT (ordT B bf (i + 1)) l (wbT (ordT B bf (i + 1)) l (i + 1)) := fun l hl => by rw [pi_next hpi.2.1 l hl, hfl, if_neg (by decide)]; exact hf2 l hl
        refine pr_iinc (v := (nI (i + 1))) (L' := [(2, .inl (nI (i + 1))), (1, .inl (nI k)), (0, .inr (.inr 0))]) tX8_inOrder_418 0 rfl (nI_1 _) (by decide) rfl ?_
        refine pr_goto (pc' := 40) tX8_inOrder_421 rfl ?_
        refine pR_sub (L' := [(2, .inl (nI (i + 1))), (1, .inl (nI k)), (0, .inr (.inr 0))]) [0, 1, 2] rfl ?_
        exact ih (i + 1) f2 g2 r2 (by omega) hv2

set_option maxRecDepth 100000 in
theorem rm_inOrder {σ : pST} {B : BkS} {bf : Nat → Int64} {k : Nat} (hB : BkOK B) (hbk : RMbk σ B) (hk : k < 32) (hbf : ∀ l, l < 32 → σ.2 1 l = bf l) : ∃ ρ, kX8_inOrder σ [.inr (.inr 0), .inl (nI k)] = some (ρ, some (.inr (.inl (vaT (ordT B bf B.n) k)))) ∧ ρ.1 = σ.1 ∧ ∀ z, z ≤ 40 → ρ.2 z = σ.2 z := by
  have key : ∃ q, kX8_inOrder σ [.inr (.inr 0), .inl (nI k)] = some q ∧ (fun x => x.2 = some (.inr (.inl (vaT (ordT B bf B.n) k))) ∧ x.1.1 = σ.1 ∧ ∀ z, z ≤ 40 → x.1.2 z = σ.2 z) q := by
    refine pR_met (post := (fun x => x.2 = some (.inr (.inl (vaT (ordT B bf B.n) k))) ∧ x.1.1 = σ.1 ∧ ∀ z, z ≤ 40 → x.1.2 z = σ.2 z)) rfl (Nat.le_of_ble_eq_true rfl) ?_
    show pR _ _ _ _ _ _ _ _ 0 [(0, .inr (.inr 0)), (1, .inl (nI k))] [] σ
    refine pr_iload_n tX8_inOrder_0 1 rfl ?_
    refine pr_if_lt (pc' := 10) tX8_inOrder_1 rfl (fun hc1 => ?_) (fun hc1 => ?_)
    · skip
      exact absurd hc1 (nI_pos (by omega))
    · skip
      refine pr_iload_n tX8_inOrder_4 1 rfl ?_
      refine pr_bipush (v := nI 32) tX8_inOrder_5 rfl ?_
      refine pr_ic_lt (pc' := 12) tX8_inOrder_7 rfl (fun hc7 => ?_) (fun hc7 => ?_)
      · skip
        have hc7 : k < 32 := (nI_ltI (by omega) (by omega)).mp hc7
        refine pr_iconst (v := nI 0) tX8_inOrder_12 rfl ?_
        refine pr_istore_n (L' := [(2, .inl (nI 0)), (0, .inr (.inr 0)), (1, .inl (nI k))]) tX8_inOrder_13 (by decide) rfl ?_
        refine pR_sub (L' := [(2, .inl (nI 0)), (1, .inl (nI k)), (0, .inr (.inr 0))]) [0, 2, 1] rfl ?_
        have z := p1_X8_inOrder (σ := σ) (g := σ.2 42) (r := σ.2 43) (k := k) (post := (fun x => x.2 = some (.inr (.inl (vaT (ordT B bf B.n) k))) ∧ x.1.1 = σ.1 ∧ ∀ z, z ≤ 40 → x.1.2 z = σ.2 z)) (fun f hf => ?_) 32 0 (σ.2 41) (Nat.zero_add _) (fun l hl => absurd hl (Nat.not_lt_zero _))
        · rw [pl_id] at z
          exact z
        refine pr_iconst (v := nI 0) tX8_inOrder_38 rfl ?_
        refine pr_istore_n (L' := [(2, .inl (nI 0)), (1, .inl (nI k)), (0, .inr (.inr 0))]) tX8_inOrder_39 (by decide) rfl ?_
        refine pR_sub (L' := [(2, .inl (nI 0)), (1, .inl (nI k)), (0, .inr (.inr 0))]) [0, 1, 2] rfl ?_
        exact lp_X8_inOrder hB hbk hk B.n 0 f (σ.2 42) (σ.2 43) (Nat.zero_add _) (fun l hl => (hf l hl).trans (hbf l hl))
      · skip
        exact absurd ((nI_ltI (by omega) (by omega)).mpr hk) hc7
  obtain ⟨⟨ρ, r⟩, k1, k2, k3⟩ := key
  have k2' : r = some (.inr (.inl (vaT (ordT B bf B.n) k))) := k2
  rw [k2'] at k1
  exact ⟨ρ, k1, k3⟩

set_option maxRecDepth 100000 in
theorem ev_X8_inOrder_out (σ : pST) {k : Int32} (hk : k < 0 ∨ nI 32 ≤ k) : kX8_inOrder σ [.inr (.inr 0), .inl k] = some ((σ, some (.inr (.inl 0)))) := by
  have key : ∃ x, kX8_inOrder σ [.inr (.inr 0), .inl k] = some x ∧ x = (σ, some (.inr (.inl 0))) := by
    refine pR_met (post := fun x => x = (σ, some (.inr (.inl 0)))) rfl (Nat.le_of_ble_eq_true rfl) ?_
    show pR _ _ _ _ _ _ _ _ 0 [(0, .inr (.inr 0)), (1, .inl k)] [] σ
    refine pr_iload_n tX8_inOrder_0 1 rfl ?_
    refine pr_if_lt (pc' := 10) tX8_inOrder_1 rfl (fun hc1 => ?_) (fun hc1 => ?_)
    · skip
      skip
      refine pr_lconst (v := 0) tX8_inOrder_10 rfl ?_
      refine pr_lret tX8_inOrder_11 rfl ?_
      rfl
    · skip
      skip
      refine pr_iload_n tX8_inOrder_4 1 rfl ?_
      refine pr_bipush (v := nI 32) tX8_inOrder_5 rfl ?_
      refine pr_ic_lt (pc' := 12) tX8_inOrder_7 rfl (fun hc7 => ?_) (fun hc7 => ?_)
      · skip
        exact absurd hk (fun z => z.elim hc1 (fun z => Int32.not_lt.mpr z hc7))
      · skip
        skip
        refine pr_lconst (v := 0) tX8_inOrder_10 rfl ?_
        refine pr_lret tX8_inOrder_11 rfl ?_
        rfl
  obtain ⟨x, h1, h2⟩ := key
  rw [h1, h2]
