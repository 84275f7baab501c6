/-! ===== groups of the class ===== -/
set_option maxRecDepth 100000 in
theorem lp_X1_joinGroups {b : Nat} (hb : b = 9 ∨ b = 153) {I : Nat → Nat → Int32} {J : Nat → Nat → Int64} {n : Nat} (hn : I b 2 = nI n) (hn1 : n ≤ 16) {L : Nat → Nat} {x y : Nat} (hL : ∀ d, d < n → L d ≤ d) (hx : x ≤ 16) (hy : y ≤ 16) : ∀ (m i : Nat), i + m = n → pR shX tX1_joinGroups fX1_joinGroups qX1_joinGroups lX1_joinGroups 6 0 (fun x_ => x_ = ((grI I b n (joinL n L x y), J), none)) 9 [(4, .inl (nI i)), (3, .inl (nI (min x y))), (0, .inr (.inr b)), (1, .inl (nI x)), (2, .inl (nI y))] [] (grI I b n (joinL i L x y), J) := by
  intro m
  induction m with
  | zero =>
    intro i hi
    refine pr_iload tX1_joinGroups_9 0 rfl ?_
    refine pr_aload_n tX1_joinGroups_11 2 rfl ?_
    refine pr_get0 tX1_joinGroups_12 rfl (shB hb).1 rfl ?_
    refine pR_topi (y := (nI n)) (by show grI I b n _ b 2 = _; rw [grI_b (by omega)]; exact hn) ?_
    refine pr_ic_ge (pc' := 57) tX1_joinGroups_15 rfl (fun hc15 => ?_) (fun hc15 => ?_)
    · skip
      have hc15 : n ≤ i := (nI_leI (by omega) (by omega)).mp hc15
      refine pr_ret tX1_joinGroups_57 rfl ?_
      rw [show i = n by omega]
    · skip
      exact absurd ((nI_leI (by omega) (by omega)).mpr (by omega)) hc15
  | succ m ih =>
    intro i hi
    refine pr_iload tX1_joinGroups_9 0 rfl ?_
    refine pr_aload_n tX1_joinGroups_11 2 rfl ?_
    refine pr_get0 tX1_joinGroups_12 rfl (shB hb).1 rfl ?_
    refine pR_topi (y := (nI n)) (by show grI I b n _ b 2 = _; rw [grI_b (by omega)]; exact hn) ?_
    refine pr_ic_ge (pc' := 57) tX1_joinGroups_15 rfl (fun hc15 => ?_) (fun hc15 => ?_)
    · skip
      exact absurd ((nI_leI (by omega) (by omega)).mp hc15) (by omega)
    · skip
      have hc15 : ¬ n ≤ i := fun z9 => hc15 ((nI_leI (by omega) (by omega)).mpr z9)
      have hLi := hL i (by omega)
      refine pr_aload_n tX1_joinGroups_18 2 rfl ?_
      refine pr_geta (j := b + 6) tX1_joinGroups_19 rfl (shB hb).1 rfl rfl ?_
      refine pr_iload tX1_joinGroups_22 0 rfl ?_
      refine pr_aal (a := b + 7 + 8 * i) tX1_joinGroups_24 i (shB hb).2.2.2.2.2.2 rfl (by omega) (by decide) rfl ?_
      refine pr_astore (L' := [(5, .inr (.inr (b + 7 + 8 * i))), (4, .inl (nI i)), (3, .inl (nI (min x y))), (0, .inr (.inr b)), (1, .inl (nI x)), (2, .inl (nI y))]) tX1_joinGroups_25 (by decide) rfl ?_
      refine pr_aload tX1_joinGroups_27 0 rfl ?_
      refine pr_get0 tX1_joinGroups_29 rfl (shA hb (show i < 16 by omega)).1 rfl ?_
      refine pR_topi (y := (nI (L i))) (by show grI I b n _ (b + 7 + 8 * i) 7 = _; rw [grI_r (by omega), joinL_i]) ?_
      refine pr_iload_n tX1_joinGroups_32 4 rfl ?_
      refine pr_ic_eq (pc' := 45) tX1_joinGroups_33 rfl (fun hc33 => ?_) (fun hc33 => ?_)
      · skip
        have hc33 : (L i) = x := (nI_eq (by omega) (by omega)).mp hc33
        refine pr_aload tX1_joinGroups_45 0 rfl ?_
        refine pr_iload_n tX1_joinGroups_47 2 rfl ?_
        refine pr_put0 tX1_joinGroups_48 rfl (shA hb (show i < 16 by omega)).1 rfl ?_
        obtain ⟨σ1, eσ1⟩ : ∃ z : pST, z = (pm_ui (grI I b n (joinL i L x y), J).1 (b + 7 + 8 * i) 7 (nI (min x y)), (grI I b n (joinL i L x y), J).2) := ⟨_, rfl⟩
        rw [← eσ1]
        refine pr_iinc (v := (nI (i + 1))) (L' := [(4, .inl (nI (i + 1))), (5, .inr (.inr (b + 7 + 8 * i))), (3, .inl (nI (min x y))), (0, .inr (.inr b)), (1, .inl (nI x)), (2, .inl (nI y))]) tX1_joinGroups_51 1 rfl (nI_1 _) (by decide) rfl ?_
        refine pr_goto (pc' := 9) tX1_joinGroups_54 rfl ?_
        refine pR_sub (L' := [(4, .inl (nI (i + 1))), (3, .inl (nI (min x y))), (0, .inr (.inr b)), (1, .inl (nI x)), (2, .inl (nI y))]) [0, 2, 3, 4, 5] rfl ?_
        have e9 : σ1 = (grI I b n (joinL (i + 1) L x y), J) := by rw [eσ1]; exact Prod.ext ((grI_s (by omega)).trans (by rw [joinL_t (by omega)])) rfl
        rw [e9]
        exact ih (i + 1) (by omega)
      · skip
        have hc33 : ¬ (L i) = x := fun z9 => hc33 ((nI_eq (by omega) (by omega)).mpr z9)
        refine pr_aload tX1_joinGroups_36 0 rfl ?_
        refine pr_get0 tX1_joinGroups_38 rfl (shA hb (show i < 16 by omega)).1 rfl ?_
        refine pR_topi (y := (nI (L i))) (by show grI I b n _ (b + 7 + 8 * i) 7 = _; rw [grI_r (by omega), joinL_i]) ?_
        refine pr_iload_n tX1_joinGroups_41 5 rfl ?_
        refine pr_ic_ne (pc' := 51) tX1_joinGroups_42 rfl (fun hc42 => ?_) (fun hc42 => ?_)
        · skip
          have hc42 : ¬ (L i) = y := fun z9 => hc42 ((nI_eq (by omega) (by omega)).mpr z9)
          refine pr_iinc (v := (nI (i + 1))) (L' := [(4, .inl (nI (i + 1))), (5, .inr (.inr (b + 7 + 8 * i))), (3, .inl (nI (min x y))), (0, .inr (.inr b)), (1, .inl (nI x)), (2, .inl (nI y))]) tX1_joinGroups_51 1 rfl (nI_1 _) (by decide) rfl ?_
          refine pr_goto (pc' := 9) tX1_joinGroups_54 rfl ?_
          refine pR_sub (L' := [(4, .inl (nI (i + 1))), (3, .inl (nI (min x y))), (0, .inr (.inr b)), (1, .inl (nI x)), (2, .inl (nI y))]) [0, 2, 3, 4, 5] rfl ?_
          have e9 : ((grI I b n (joinL i L x y), J) : pST) = (grI I b n (joinL (i + 1) L x y), J) := by rw [joinL_f (by omega)]
          rw [e9]
          exact ih (i + 1) (by omega)
        · skip
          have hc42 : (L i) = y := (nI_eq (by omega) (by omega)).mp (Decidable.not_not.mp hc42)
          refine pr_aload tX1_joinGroups_45 0 rfl ?_
          refine pr_iload_n tX1_joinGroups_47 2 rfl ?_
          refine pr_put0 tX1_joinGroups_48 rfl (shA hb (show i < 16 by omega)).1 rfl ?_
          obtain ⟨σ2, eσ2⟩ : ∃ z : pST, z = (pm_ui (grI I b n (joinL i L x y), J).1 (b + 7 + 8 * i) 7 (nI (min x y)), (grI I b n (joinL i L x y), J).2) := ⟨_, rfl⟩
          rw [← eσ2]
          refine pr_iinc (v := (nI (i + 1))) (L' := [(4, .inl (nI (i + 1))), (5, .inr (.inr (b + 7 + 8 * i))), (3, .inl (nI (min x y))), (0, .inr (.inr b)), (1, .inl (nI x)), (2, .inl (nI y))]) tX1_joinGroups_51 1 rfl (nI_1 _) (by decide) rfl ?_
          refine pr_goto (pc' := 9) tX1_joinGroups_54 rfl ?_
          refine pR_sub (L' := [(4, .inl (nI (i + 1))), (3, .inl (nI (min x y))), (0, .inr (.inr b)), (1, .inl (nI x)), (2, .inl (nI y))]) [0, 2, 3, 4, 5] rfl ?_
          have e9 : σ2 = (grI I b n (joinL (i + 1) L x y), J) := by rw [eσ2]; exact Prod.ext ((grI_s (by omega)).trans (by rw [joinL_t (by omega)])) rfl
          rw [e9]
          exact ih (i + 1) (by omega)

set_option maxRecDepth 100000 in
theorem ev_X1_joinGroups {b : Nat} (hb : b = 9 ∨ b = 153) {I : Nat → Nat → Int32} {J : Nat → Nat → Int64} {n : Nat} (hn : I b 2 = nI n) (hn1 : n ≤ 16) {L : Nat → Nat} {x y : Nat} (hL : ∀ d, d < n → L d ≤ d) (hx : x ≤ 16) (hy : y ≤ 16) : kX1_joinGroups (grI I b n L, J) [.inr (.inr b), .inl (nI x), .inl (nI y)] = some (((grI I b n (joinL n L x y), J), none)) := by
  have key : ∃ x_, kX1_joinGroups (grI I b n L, J) [.inr (.inr b), .inl (nI x), .inl (nI y)] = some x_ ∧ x_ = ((grI I b n (joinL n L x y), J), none) := by
    refine pR_met (post := fun x_ => x_ = ((grI I b n (joinL n L x y), J), none)) (shB hb).1 (Nat.le_of_ble_eq_true rfl) ?_
    show pR _ _ _ _ _ _ _ _ 0 [(0, .inr (.inr b)), (1, .inl (nI x)), (2, .inl (nI y))] [] (grI I b n L, J)
    refine pr_iload_n tX1_joinGroups_0 1 rfl ?_
    refine pr_iload_n tX1_joinGroups_1 2 rfl ?_
    refine pr_callS tX1_joinGroups_2 rfl ⟨Nat.le_of_ble_eq_true rfl, Nat.le_of_ble_eq_true rfl, rfl⟩ (ev_min _ (by omega) (by omega)) ?_
    refine pR_eq (st' := [.inl (nI (min x y))]) rfl rfl ?_
    refine pr_istore_n (L' := [(3, .inl (nI (min x y))), (0, .inr (.inr b)), (1, .inl (nI x)), (2, .inl (nI y))]) tX1_joinGroups_5 (by decide) rfl ?_
    refine pr_iconst (v := nI 0) tX1_joinGroups_6 rfl ?_
    refine pr_istore (L' := [(4, .inl (nI 0)), (3, .inl (nI (min x y))), (0, .inr (.inr b)), (1, .inl (nI x)), (2, .inl (nI y))]) tX1_joinGroups_7 (by decide) rfl ?_
    refine pR_sub (L' := [(4, .inl (nI 0)), (3, .inl (nI (min x y))), (0, .inr (.inr b)), (1, .inl (nI x)), (2, .inl (nI y))]) [0, 1, 2, 3, 4] rfl ?_
    have z := lp_X1_joinGroups (J := J) hb hn hn1 hL hx hy n 0 (by omega)
    have e0 : joinL 0 L x y = L := by funext d; exact if_neg (by omega)
    rw [e0] at z
    exact z
  obtain ⟨x_, h1, h2⟩ := key
  rw [h1, h2]

set_option maxRecDepth 100000 in
theorem lp_X1_joinTouching {b : Nat} (hb : b = 9 ∨ b = 153) {I : Nat → Nat → Int32} {J : Nat → Nat → Int64} {n : Nat} (hn : I b 2 = nI n) (hn1 : n ≤ 16) {am : Nat → AtS} {k : Nat} {L : Nat → Nat} (hk : k < 32) (hL : ∀ d, d < n → L d ≤ d) (hA : ∀ c, c < n → RXat (I, J) (b + 7 + 8 * c) c (am c)) : ∀ (m i : Nat), i + m = n → pR shX tX1_joinTouching fX1_joinTouching qX1_joinTouching lX1_joinTouching 4 0 (fun x_ => x_ = ((grI I b n (tchL am n k L n).2, J), none)) 4 [(3, .inl (nI i)), (2, .inl (oI (tchL am n k L i).1)), (0, .inr (.inr b)), (1, .inl (nI k))] [] (grI I b n (tchL am n k L i).2, J) := by
  intro m
  induction m with
  | zero =>
    intro i hi
    refine pr_iload_n tX1_joinTouching_4 0 rfl ?_
    refine pr_aload_n tX1_joinTouching_5 2 rfl ?_
    refine pr_get0 tX1_joinTouching_6 rfl (shB hb).1 rfl ?_
    refine pR_topi (y := (nI n)) (by show grI I b n _ b 2 = _; rw [grI_b (by omega)]; exact hn) ?_
    refine pr_ic_ge (pc' := 60) tX1_joinTouching_9 rfl (fun hc9 => ?_) (fun hc9 => ?_)
    · skip
      have hc9 : n ≤ i := (nI_leI (by omega) (by omega)).mp hc9
      refine pr_ret tX1_joinTouching_60 rfl ?_
      rw [show i = n by omega]
    · skip
      exact absurd ((nI_leI (by omega) (by omega)).mpr (by omega)) hc9
  | succ m ih =>
    intro i hi
    have hin : i < n := by omega
    have hi16 : i < 16 := by omega
    by_cases ht : touA (am i) k
    · cases ho : (tchL am n k L i).1 with
      | none =>
        have eT : tchL am n k L (i + 1) = (some i, (tchL am n k L i).2) := by
          show (if touA (am i) k then _ else _) = _
          rw [if_pos ht, ho]
        rw [← ho]
        have et : kX0_touched (grI I b n (tchL am n k L i).2, J) [.inr (.inr (b + 7 + 8 * i)), .inl (nI k)] = some ((grI I b n (tchL am n k L i).2, J), some (.inl (nI 1))) := by
          rw [ev_X0_touched (grI I b n (tchL am n k L i).2, J) (shA hb hi16) (nI k)]
          have e9 : (grI I b n (tchL am n k L i).2 (b + 7 + 8 * i) 11 ||| grI I b n (tchL am n k L i).2 (b + 7 + 8 * i) 12) = (I (b + 7 + 8 * i) 11 ||| I (b + 7 + 8 * i) 12) := by rw [grI_o (by decide), grI_o (by decide)]
          have e8 := tou_iff (hA i hin) hk
          dsimp only at e8 ⊢
          rw [e9]
          rw [if_neg (fun z => e8.mp z ht)]
          rfl
        refine pr_iload_n tX1_joinTouching_4 0 rfl ?_
        refine pr_aload_n tX1_joinTouching_5 2 rfl ?_
        refine pr_get0 tX1_joinTouching_6 rfl (shB hb).1 rfl ?_
        refine pR_topi (y := (nI n)) (by show grI I b n _ b 2 = _; rw [grI_b (by omega)]; exact hn) ?_
        refine pr_ic_ge (pc' := 60) tX1_joinTouching_9 rfl (fun hc9 => ?_) (fun hc9 => ?_)
        · skip
          exact absurd ((nI_leI (by omega) (by omega)).mp hc9) (by omega)
        · skip
          have hc9 : ¬ n ≤ i := fun z9 => hc9 ((nI_leI (by omega) (by omega)).mpr z9)
          refine pr_aload_n tX1_joinTouching_12 2 rfl ?_
          refine pr_geta (j := b + 6) tX1_joinTouching_13 rfl (shB hb).1 rfl rfl ?_
          refine pr_iload_n tX1_joinTouching_16 0 rfl ?_
          refine pr_aal (a := b + 7 + 8 * i) tX1_joinTouching_17 i (shB hb).2.2.2.2.2.2 rfl (by omega) (by decide) rfl ?_
          refine pr_iload_n tX1_joinTouching_18 3 rfl ?_
          refine pr_callV tX1_joinTouching_19 rfl ⟨Nat.le_of_ble_eq_true rfl, Nat.le_of_ble_eq_true rfl, rfl⟩ (et) ?_
          refine pR_eq (st' := [.inl (nI 1)]) rfl rfl ?_
          refine pr_if_eq (pc' := 54) tX1_joinTouching_22 rfl (fun hc22 => ?_) (fun hc22 => ?_)
          · skip
            exact absurd hc22 (by decide)
          · skip
            refine pr_iload_n tX1_joinTouching_25 1 rfl ?_
            refine pr_iconst (v := -1) tX1_joinTouching_26 rfl ?_
            refine pr_ic_ne (pc' := 32) tX1_joinTouching_27 rfl (fun hc27 => ?_) (fun hc27 => ?_)
            · skip
              exact absurd (by rw [ho]; rfl) hc27
            · skip
              skip
              refine pr_iload_n tX1_joinTouching_30 0 rfl ?_
              refine pr_istore_n (L' := [(2, .inl (nI i)), (3, .inl (nI i)), (0, .inr (.inr b)), (1, .inl (nI k))]) tX1_joinTouching_31 (by decide) rfl ?_
              refine pr_aload_n tX1_joinTouching_32 2 rfl ?_
              refine pr_aload_n tX1_joinTouching_33 2 rfl ?_
              refine pr_geta (j := b + 6) tX1_joinTouching_34 rfl (shB hb).1 rfl rfl ?_
              refine pr_iload_n tX1_joinTouching_37 0 rfl ?_
              refine pr_aal (a := b + 7 + 8 * i) tX1_joinTouching_38 i (shB hb).2.2.2.2.2.2 rfl (by omega) (by decide) rfl ?_
              refine pr_get0 tX1_joinTouching_39 rfl (shA hb (show i < 16 by omega)).1 rfl ?_
              refine pR_topi (y := (nI ((tchL am n k L i).2 i))) (by show grI I b n _ (b + 7 + 8 * i) 7 = _; rw [grI_r (by omega)]) ?_
              refine pr_aload_n tX1_joinTouching_42 2 rfl ?_
              refine pr_geta (j := b + 6) tX1_joinTouching_43 rfl (shB hb).1 rfl rfl ?_
              refine pr_iload_n tX1_joinTouching_46 1 rfl ?_
              refine pr_aal (a := b + 7 + 8 * i) tX1_joinTouching_47 i (shB hb).2.2.2.2.2.2 rfl (by omega) (by decide) rfl ?_
              refine pr_get0 tX1_joinTouching_48 rfl (shA hb (show i < 16 by omega)).1 rfl ?_
              refine pR_topi (y := (nI ((tchL am n k L i).2 i))) (by show grI I b n _ (b + 7 + 8 * i) 7 = _; rw [grI_r (by omega)]) ?_
              refine pr_callV tX1_joinTouching_51 rfl ⟨Nat.le_of_ble_eq_true rfl, Nat.le_of_ble_eq_true rfl, rfl⟩ (ev_X1_joinGroups hb hn hn1 (x := (tchL am n k L i).2 i) (y := (tchL am n k L i).2 i) (fun d hd => Nat.le_trans (tchL_le i d) (hL d hd)) (by have := tchL_le (am := am) (n := n) (k := k) (L := L) i i; have := hL i (by omega); omega) (by have := tchL_le (am := am) (n := n) (k := k) (L := L) i i; have := hL i (by omega); omega)) ?_
              refine pR_eq (st' := []) rfl rfl ?_
              refine pr_iinc (v := (nI (i + 1))) (L' := [(3, .inl (nI (i + 1))), (2, .inl (nI i)), (0, .inr (.inr b)), (1, .inl (nI k))]) tX1_joinTouching_54 1 rfl (nI_1 _) (by decide) rfl ?_
              refine pr_goto (pc' := 4) tX1_joinTouching_57 rfl ?_
              refine pR_sub (L' := [(3, .inl (nI (i + 1))), (2, .inl (oI (some i))), (0, .inr (.inr b)), (1, .inl (nI k))]) [0, 1, 2, 3] rfl ?_
              rw [joinL_x]
              have z := ih (i + 1) (by omega)
              rw [eT] at z
              exact z
      | some f =>
        have hf := tchL_f i f ho
        have eT : tchL am n k L (i + 1) = (some f, joinL n (tchL am n k L i).2 ((tchL am n k L i).2 f) ((tchL am n k L i).2 i)) := by
          show (if touA (am i) k then _ else _) = _
          rw [if_pos ht, ho]
        rw [← ho]
        have et : kX0_touched (grI I b n (tchL am n k L i).2, J) [.inr (.inr (b + 7 + 8 * i)), .inl (nI k)] = some ((grI I b n (tchL am n k L i).2, J), some (.inl (nI 1))) := by
          rw [ev_X0_touched (grI I b n (tchL am n k L i).2, J) (shA hb hi16) (nI k)]
          have e9 : (grI I b n (tchL am n k L i).2 (b + 7 + 8 * i) 11 ||| grI I b n (tchL am n k L i).2 (b + 7 + 8 * i) 12) = (I (b + 7 + 8 * i) 11 ||| I (b + 7 + 8 * i) 12) := by rw [grI_o (by decide), grI_o (by decide)]
          have e8 := tou_iff (hA i hin) hk
          dsimp only at e8 ⊢
          rw [e9]
          rw [if_neg (fun z => e8.mp z ht)]
          rfl
        refine pr_iload_n tX1_joinTouching_4 0 rfl ?_
        refine pr_aload_n tX1_joinTouching_5 2 rfl ?_
        refine pr_get0 tX1_joinTouching_6 rfl (shB hb).1 rfl ?_
        refine pR_topi (y := (nI n)) (by show grI I b n _ b 2 = _; rw [grI_b (by omega)]; exact hn) ?_
        refine pr_ic_ge (pc' := 60) tX1_joinTouching_9 rfl (fun hc9 => ?_) (fun hc9 => ?_)
        · skip
          exact absurd ((nI_leI (by omega) (by omega)).mp hc9) (by omega)
        · skip
          have hc9 : ¬ n ≤ i := fun z9 => hc9 ((nI_leI (by omega) (by omega)).mpr z9)
          refine pr_aload_n tX1_joinTouching_12 2 rfl ?_
          refine pr_geta (j := b + 6) tX1_joinTouching_13 rfl (shB hb).1 rfl rfl ?_
          refine pr_iload_n tX1_joinTouching_16 0 rfl ?_
          refine pr_aal (a := b + 7 + 8 * i) tX1_joinTouching_17 i (shB hb).2.2.2.2.2.2 rfl (by omega) (by decide) rfl ?_
          refine pr_iload_n tX1_joinTouching_18 3 rfl ?_
          refine pr_callV tX1_joinTouching_19 rfl ⟨Nat.le_of_ble_eq_true rfl, Nat.le_of_ble_eq_true rfl, rfl⟩ (et) ?_
          refine pR_eq (st' := [.inl (nI 1)]) rfl rfl ?_
          refine pr_if_eq (pc' := 54) tX1_joinTouching_22 rfl (fun hc22 => ?_) (fun hc22 => ?_)
          · skip
            exact absurd hc22 (by decide)
          · skip
            refine pr_iload_n tX1_joinTouching_25 1 rfl ?_
            refine pr_iconst (v := -1) tX1_joinTouching_26 rfl ?_
            refine pr_ic_ne (pc' := 32) tX1_joinTouching_27 rfl (fun hc27 => ?_) (fun hc27 => ?_)
            · skip
              skip
              refine pr_aload_n tX1_joinTouching_32 2 rfl ?_
              refine pr_aload_n tX1_joinTouching_33 2 rfl ?_
              refine pr_geta (j := b + 6) tX1_joinTouching_34 rfl (shB hb).1 rfl rfl ?_
              refine pr_iload_n tX1_joinTouching_37 1 rfl ?_
              refine pr_aal (a := b + 7 + 8 * f) tX1_joinTouching_38 f (shB hb).2.2.2.2.2.2 (by rw [ho]; rfl) (by omega) (by decide) rfl ?_
              refine pr_get0 tX1_joinTouching_39 rfl (shA hb (show f < 16 by omega)).1 rfl ?_
              refine pR_topi (y := (nI ((tchL am n k L i).2 f))) (by show grI I b n _ (b + 7 + 8 * f) 7 = _; rw [grI_r (by omega)]) ?_
              refine pr_aload_n tX1_joinTouching_42 2 rfl ?_
              refine pr_geta (j := b + 6) tX1_joinTouching_43 rfl (shB hb).1 rfl rfl ?_
              refine pr_iload_n tX1_joinTouching_46 0 rfl ?_
              refine pr_aal (a := b + 7 + 8 * i) tX1_joinTouching_47 i (shB hb).2.2.2.2.2.2 rfl (by omega) (by decide) rfl ?_
              refine pr_get0 tX1_joinTouching_48 rfl (shA hb (show i < 16 by omega)).1 rfl ?_
              refine pR_topi (y := (nI ((tchL am n k L i).2 i))) (by show grI I b n _ (b + 7 + 8 * i) 7 = _; rw [grI_r (by omega)]) ?_
              refine pr_callV tX1_joinTouching_51 rfl ⟨Nat.le_of_ble_eq_true rfl, Nat.le_of_ble_eq_true rfl, rfl⟩ (ev_X1_joinGroups hb hn hn1 (x := (tchL am n k L i).2 f) (y := (tchL am n k L i).2 i) (fun d hd => Nat.le_trans (tchL_le i d) (hL d hd)) (by have := tchL_le (am := am) (n := n) (k := k) (L := L) i f; have := hL f (by omega); omega) (by have := tchL_le (am := am) (n := n) (k := k) (L := L) i i; have := hL i (by omega); omega)) ?_
              refine pR_eq (st' := []) rfl rfl ?_
              refine pr_iinc (v := (nI (i + 1))) (L' := [(3, .inl (nI (i + 1))), (2, .inl (oI (tchL am n k L i).1)), (0, .inr (.inr b)), (1, .inl (nI k))]) tX1_joinTouching_54 0 rfl (nI_1 _) (by decide) rfl ?_
              refine pr_goto (pc' := 4) tX1_joinTouching_57 rfl ?_
              refine pR_sub (L' := [(3, .inl (nI (i + 1))), (2, .inl (oI (tchL am n k L i).1)), (0, .inr (.inr b)), (1, .inl (nI k))]) [0, 1, 2, 3] rfl ?_
              rw [ho]
              have z := ih (i + 1) (by omega)
              rw [eT] at z
              exact z
            · skip
              exact absurd (Decidable.not_not.mp hc27) (by rw [ho]; exact oI_m1 (by omega))
    · have eT : tchL am n k L (i + 1) = tchL am n k L i := by
        show (if touA (am i) k then _ else _) = _
        rw [if_neg ht]
      have et : kX0_touched (grI I b n (tchL am n k L i).2, J) [.inr (.inr (b + 7 + 8 * i)), .inl (nI k)] = some ((grI I b n (tchL am n k L i).2, J), some (.inl (nI 0))) := by
        rw [ev_X0_touched (grI I b n (tchL am n k L i).2, J) (shA hb hi16) (nI k)]
        have e9 : (grI I b n (tchL am n k L i).2 (b + 7 + 8 * i) 11 ||| grI I b n (tchL am n k L i).2 (b + 7 + 8 * i) 12) = (I (b + 7 + 8 * i) 11 ||| I (b + 7 + 8 * i) 12) := by rw [grI_o (by decide), grI_o (by decide)]
        have e8 := tou_iff (hA i hin) hk
        dsimp only at e8 ⊢
        rw [e9]
        rw [if_pos (e8.mpr ht)]
        rfl
      refine pr_iload_n tX1_joinTouching_4 0 rfl ?_
      refine pr_aload_n tX1_joinTouching_5 2 rfl ?_
      refine pr_get0 tX1_joinTouching_6 rfl (shB hb).1 rfl ?_
      refine pR_topi (y := (nI n)) (by show grI I b n _ b 2 = _; rw [grI_b (by omega)]; exact hn) ?_
      refine pr_ic_ge (pc' := 60) tX1_joinTouching_9 rfl (fun hc9 => ?_) (fun hc9 => ?_)
      · skip
        exact absurd ((nI_leI (by omega) (by omega)).mp hc9) (by omega)
      · skip
        have hc9 : ¬ n ≤ i := fun z9 => hc9 ((nI_leI (by omega) (by omega)).mpr z9)
        refine pr_aload_n tX1_joinTouching_12 2 rfl ?_
        refine pr_geta (j := b + 6) tX1_joinTouching_13 rfl (shB hb).1 rfl rfl ?_
        refine pr_iload_n tX1_joinTouching_16 0 rfl ?_
        refine pr_aal (a := b + 7 + 8 * i) tX1_joinTouching_17 i (shB hb).2.2.2.2.2.2 rfl (by omega) (by decide) rfl ?_
        refine pr_iload_n tX1_joinTouching_18 3 rfl ?_
        refine pr_callV tX1_joinTouching_19 rfl ⟨Nat.le_of_ble_eq_true rfl, Nat.le_of_ble_eq_true rfl, rfl⟩ (et) ?_
        refine pR_eq (st' := [.inl (nI 0)]) rfl rfl ?_
        refine pr_if_eq (pc' := 54) tX1_joinTouching_22 rfl (fun hc22 => ?_) (fun hc22 => ?_)
        · skip
          refine pr_iinc (v := (nI (i + 1))) (L' := [(3, .inl (nI (i + 1))), (2, .inl (oI (tchL am n k L i).1)), (0, .inr (.inr b)), (1, .inl (nI k))]) tX1_joinTouching_54 0 rfl (nI_1 _) (by decide) rfl ?_
          refine pr_goto (pc' := 4) tX1_joinTouching_57 rfl ?_
          refine pR_sub (L' := [(3, .inl (nI (i + 1))), (2, .inl (oI (tchL am n k L i).1)), (0, .inr (.inr b)), (1, .inl (nI k))]) [0, 1, 2, 3] rfl ?_
          have z := ih (i + 1) (by omega)
          rw [eT] at z
          exact z
        · skip
          exact absurd (by decide) hc22

set_option maxRecDepth 100000 in
theorem ev_X1_joinTouching {b : Nat} (hb : b = 9 ∨ b = 153) {I : Nat → Nat → Int32} {J : Nat → Nat → Int64} {n : Nat} (hn : I b 2 = nI n) (hn1 : n ≤ 16) {am : Nat → AtS} {k : Nat} {L : Nat → Nat} (hk : k < 32) (hL : ∀ d, d < n → L d ≤ d) (hA : ∀ c, c < n → RXat (I, J) (b + 7 + 8 * c) c (am c)) : kX1_joinTouching (grI I b n L, J) [.inr (.inr b), .inl (nI k)] = some (((grI I b n (tchL am n k L n).2, J), none)) := by
  have key : ∃ x_, kX1_joinTouching (grI I b n L, J) [.inr (.inr b), .inl (nI k)] = some x_ ∧ x_ = ((grI I b n (tchL am n k L n).2, J), none) := by
    refine pR_met (post := fun x_ => x_ = ((grI I b n (tchL am n k L n).2, J), none)) (shB hb).1 (Nat.le_of_ble_eq_true rfl) ?_
    show pR _ _ _ _ _ _ _ _ 0 [(0, .inr (.inr b)), (1, .inl (nI k))] [] (grI I b n L, J)
    refine pr_iconst (v := -1) tX1_joinTouching_0 rfl ?_
    refine pr_istore_n (L' := [(2, .inl (-1)), (0, .inr (.inr b)), (1, .inl (nI k))]) tX1_joinTouching_1 (by decide) rfl ?_
    refine pr_iconst (v := nI 0) tX1_joinTouching_2 rfl ?_
    refine pr_istore_n (L' := [(3, .inl (nI 0)), (2, .inl (-1)), (0, .inr (.inr b)), (1, .inl (nI k))]) tX1_joinTouching_3 (by decide) rfl ?_
    refine pR_sub (L' := [(3, .inl (nI 0)), (2, .inl (-1)), (0, .inr (.inr b)), (1, .inl (nI k))]) [0, 1, 2, 3] rfl ?_
    exact lp_X1_joinTouching (J := J) hb hn hn1 hk hL hA n 0 (by omega)
  obtain ⟨x_, h1, h2⟩ := key
  rw [h1, h2]

set_option maxRecDepth 100000 in
theorem lq_X1_formGroups {b : Nat} (hb : b = 9 ∨ b = 153) {I : Nat → Nat → Int32} {J : Nat → Nat → Int64} {n : Nat} (hn : I b 2 = nI n) (hn1 : n ≤ 16) {am : Nat → AtS} (hA : ∀ c, c < n → RXat (I, J) (b + 7 + 8 * c) c (am c)) : ∀ (m i : Nat), i + m = 32 → pR shX tX1_formGroups fX1_formGroups qX1_formGroups lX1_formGroups 2 0 (fun x_ => x_ = ((grI I b n (grpL am n 32), J), none)) 28 [(1, .inl (nI i)), (0, .inr (.inr b))] [] (grI I b n (grpL am n i), J) := by
  intro m
  induction m with
  | zero =>
    intro i hi
    refine pr_iload_n tX1_formGroups_28 0 rfl ?_
    refine pr_bipush (v := nI 32) tX1_formGroups_29 rfl ?_
    refine pr_ic_ge (pc' := 45) tX1_formGroups_31 rfl (fun hc31 => ?_) (fun hc31 => ?_)
    · skip
      have hc31 : 32 ≤ i := (nI_leI (by omega) (by omega)).mp hc31
      refine pr_ret tX1_formGroups_45 rfl ?_
      rw [show i = 32 by omega]
    · skip
      exact absurd ((nI_leI (by omega) (by omega)).mpr (by omega)) hc31
  | succ m ih =>
    intro i hi
    refine pr_iload_n tX1_formGroups_28 0 rfl ?_
    refine pr_bipush (v := nI 32) tX1_formGroups_29 rfl ?_
    refine pr_ic_ge (pc' := 45) tX1_formGroups_31 rfl (fun hc31 => ?_) (fun hc31 => ?_)
    · skip
      exact absurd ((nI_leI (by omega) (by omega)).mp hc31) (by omega)
    · skip
      have hc31 : ¬ 32 ≤ i := fun z9 => hc31 ((nI_leI (by omega) (by omega)).mpr z9)
      refine pr_aload_n tX1_formGroups_34 1 rfl ?_
      refine pr_iload_n tX1_formGroups_35 0 rfl ?_
      refine pr_callV tX1_formGroups_36 rfl ⟨Nat.le_of_ble_eq_true rfl, Nat.le_of_ble_eq_true rfl, rfl⟩ (ev_X1_joinTouching hb hn hn1 (k := i) (by omega) (fun d _ => grpL_le i d) hA) ?_
      refine pR_eq (st' := []) rfl rfl ?_
      refine pr_iinc (v := (nI (i + 1))) (L' := [(1, .inl (nI (i + 1))), (0, .inr (.inr b))]) tX1_formGroups_39 0 rfl (nI_1 _) (by decide) rfl ?_
      refine pr_goto (pc' := 28) tX1_formGroups_42 rfl ?_
      refine pR_sub (L' := [(1, .inl (nI (i + 1))), (0, .inr (.inr b))]) [0, 1] rfl ?_
      exact ih (i + 1) (by omega)

set_option maxRecDepth 100000 in
theorem lp_X1_formGroups {b : Nat} (hb : b = 9 ∨ b = 153) {I : Nat → Nat → Int32} {J : Nat → Nat → Int64} {n : Nat} (hn : I b 2 = nI n) (hn1 : n ≤ 16) {am : Nat → AtS} (hA : ∀ c, c < n → RXat (I, J) (b + 7 + 8 * c) c (am c)) : ∀ (m i : Nat), i + m = n → pR shX tX1_formGroups fX1_formGroups qX1_formGroups lX1_formGroups 2 0 (fun x_ => x_ = ((grI I b n (grpL am n 32), J), none)) 2 [(1, .inl (nI i)), (0, .inr (.inr b))] [] (grI I b i (fun d => d), J) := by
  intro m
  induction m with
  | zero =>
    intro i hi
    refine pr_iload_n tX1_formGroups_2 0 rfl ?_
    refine pr_aload_n tX1_formGroups_3 1 rfl ?_
    refine pr_get0 tX1_formGroups_4 rfl (shB hb).1 rfl ?_
    refine pR_topi (y := (nI n)) (by show grI I b i (fun d => d) b 2 = _; rw [grI_b (by omega)]; exact hn) ?_
    refine pr_ic_ge (pc' := 26) tX1_formGroups_7 rfl (fun hc7 => ?_) (fun hc7 => ?_)
    · skip
      have hc7 : n ≤ i := (nI_leI (by omega) (by omega)).mp hc7
      refine pr_iconst (v := nI 0) tX1_formGroups_26 rfl ?_
      refine pr_istore_n (L' := [(1, .inl (nI 0)), (0, .inr (.inr b))]) tX1_formGroups_27 (by decide) rfl ?_
      refine pR_sub (L' := [(1, .inl (nI 0)), (0, .inr (.inr b))]) [0, 1] rfl ?_
      rw [show i = n by omega]
      exact lq_X1_formGroups hb hn hn1 hA 32 0 (by omega)
    · skip
      exact absurd ((nI_leI (by omega) (by omega)).mpr (by omega)) hc7
  | succ m ih =>
    intro i hi
    refine pr_iload_n tX1_formGroups_2 0 rfl ?_
    refine pr_aload_n tX1_formGroups_3 1 rfl ?_
    refine pr_get0 tX1_formGroups_4 rfl (shB hb).1 rfl ?_
    refine pR_topi (y := (nI n)) (by show grI I b i (fun d => d) b 2 = _; rw [grI_b (by omega)]; exact hn) ?_
    refine pr_ic_ge (pc' := 26) tX1_formGroups_7 rfl (fun hc7 => ?_) (fun hc7 => ?_)
    · skip
      exact absurd ((nI_leI (by omega) (by omega)).mp hc7) (by omega)
    · skip
      have hc7 : ¬ n ≤ i := fun z9 => hc7 ((nI_leI (by omega) (by omega)).mpr z9)
      refine pr_aload_n tX1_formGroups_10 1 rfl ?_
      refine pr_geta (j := b + 6) tX1_formGroups_11 rfl (shB hb).1 rfl rfl ?_
      refine pr_iload_n tX1_formGroups_14 0 rfl ?_
      refine pr_aal (a := b + 7 + 8 * i) tX1_formGroups_15 i (shB hb).2.2.2.2.2.2 rfl (by omega) (by decide) rfl ?_
      refine pr_iload_n tX1_formGroups_16 0 rfl ?_
      refine pr_put0 tX1_formGroups_17 rfl (shA hb (show i < 16 by omega)).1 rfl ?_
      obtain ⟨σ1, eσ1⟩ : ∃ z : pST, z = (pm_ui (grI I b i (fun d => d), J).1 (b + 7 + 8 * i) 7 (nI i), (grI I b i (fun d => d), J).2) := ⟨_, rfl⟩
      rw [← eσ1]
      refine pr_iinc (v := (nI (i + 1))) (L' := [(1, .inl (nI (i + 1))), (0, .inr (.inr b))]) tX1_formGroups_20 0 rfl (nI_1 _) (by decide) rfl ?_
      refine pr_goto (pc' := 2) tX1_formGroups_23 rfl ?_
      refine pR_sub (L' := [(1, .inl (nI (i + 1))), (0, .inr (.inr b))]) [0, 1] rfl ?_
      have e9 : σ1 = (grI I b (i + 1) (fun d => d), J) := by rw [eσ1]; exact Prod.ext (grI_n (L := fun d => d)) rfl
      rw [e9]
      exact ih (i + 1) (by omega)

set_option maxRecDepth 100000 in
theorem ev_X1_formGroups {b : Nat} (hb : b = 9 ∨ b = 153) {I : Nat → Nat → Int32} {J : Nat → Nat → Int64} {n : Nat} (hn : I b 2 = nI n) (hn1 : n ≤ 16) {am : Nat → AtS} (hA : ∀ c, c < n → RXat (I, J) (b + 7 + 8 * c) c (am c)) : kX1_formGroups (I, J) [.inr (.inr b)] = some (((grI I b n (grpL am n 32), J), none)) := by
  have key : ∃ x_, kX1_formGroups (I, J) [.inr (.inr b)] = some x_ ∧ x_ = ((grI I b n (grpL am n 32), J), none) := by
    refine pR_met (post := fun x_ => x_ = ((grI I b n (grpL am n 32), J), none)) (shB hb).1 (Nat.le_of_ble_eq_true rfl) ?_
    show pR _ _ _ _ _ _ _ _ 0 [(0, .inr (.inr b))] [] (I, J)
    refine pr_iconst (v := nI 0) tX1_formGroups_0 rfl ?_
    refine pr_istore_n (L' := [(1, .inl (nI 0)), (0, .inr (.inr b))]) tX1_formGroups_1 (by decide) rfl ?_
    refine pR_sub (L' := [(1, .inl (nI 0)), (0, .inr (.inr b))]) [0, 1] rfl ?_
    have z := lp_X1_formGroups (J := J) hb hn hn1 hA n 0 (by omega)
    rw [grI_0] at z
    exact z
  obtain ⟨x_, h1, h2⟩ := key
  rw [h1, h2]
