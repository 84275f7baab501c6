/-! ===== rootOf, touches ===== -/
set_option maxRecDepth 100000 in
theorem lp_X8_rootOf {I : Nat → Nat → Int32} {J : Nat → Nat → Int64} {P L : Nat → Nat} {n c : Nat} (hn : n ≤ 16) (hF : FRt P L n) : ∀ (m d : Nat), d < m → d < n → L d = L c → pR shM tX8_rootOf fX8_rootOf qX8_rootOf lX8_rootOf 3 1 (fun x => x = ((grM I n P, J), some (.inl (nI (L c))))) 2 [(2, .inl (nI d)), (0, .inr (.inr 0))] [] (grM I n P, J) := by
  intro m
  induction m with
  | zero =>
    intro d h0
    exact absurd h0 (Nat.not_lt_zero _)
  | succ m ih =>
    intro d h0 hd hL
    obtain ⟨p1, p2, p3, p4, p5⟩ := hF d (by omega)
    refine pr_aload_n tX8_rootOf_2 1 rfl ?_
    refine pr_geta (j := 31) tX8_rootOf_3 rfl rfl rfl rfl ?_
    refine pr_iload_n tX8_rootOf_6 0 rfl ?_
    refine pr_ial tX8_rootOf_7 d rfl rfl (by omega) (by decide) ?_
    refine pR_topi (y := (nI (P d))) (grM_r (by omega)) ?_
    refine pr_iload_n tX8_rootOf_8 0 rfl ?_
    refine pr_ic_eq (pc' := 22) tX8_rootOf_9 rfl (fun hc9 => ?_) (fun hc9 => ?_)
    · skip
      have hc9 : (P d) = d := (nI_eq (by omega) (by omega)).mp hc9
      refine pr_iload_n tX8_rootOf_22 0 rfl ?_
      refine pr_iret tX8_rootOf_23 rfl ?_
      rw [← hL, (p5.mp hc9)]
    · skip
      have hc9 : ¬ (P d) = d := fun z9 => hc9 ((nI_eq (by omega) (by omega)).mpr z9)
      refine pr_aload_n tX8_rootOf_12 1 rfl ?_
      refine pr_geta (j := 31) tX8_rootOf_13 rfl rfl rfl rfl ?_
      refine pr_iload_n tX8_rootOf_16 0 rfl ?_
      refine pr_ial tX8_rootOf_17 d rfl rfl (by omega) (by decide) ?_
      refine pR_topi (y := (nI (P d))) (grM_r (by omega)) ?_
      refine pr_istore_n (L' := [(2, .inl (nI (P d))), (0, .inr (.inr 0))]) tX8_rootOf_18 (by decide) rfl ?_
      refine pr_goto (pc' := 2) tX8_rootOf_19 rfl ?_
      refine pR_sub (L' := [(2, .inl (nI (P d))), (0, .inr (.inr 0))]) [0, 1] rfl ?_
      exact ih (P d) (by omega) (by omega) (by rw [p2]; exact hL)

set_option maxRecDepth 100000 in
theorem ev_X8_rootOf {I : Nat → Nat → Int32} {J : Nat → Nat → Int64} {P L : Nat → Nat} {n c : Nat} (hn : n ≤ 16) (hF : FRt P L n) (hc : c < n) : kX8_rootOf (grM I n P, J) [.inr (.inr 0), .inl (nI c)] = some (((grM I n P, J), some (.inl (nI (L c))))) := by
  have key : ∃ x_, kX8_rootOf (grM I n P, J) [.inr (.inr 0), .inl (nI c)] = some x_ ∧ x_ = ((grM I n P, J), some (.inl (nI (L c)))) := by
    refine pR_met (post := fun x_ => x_ = ((grM I n P, J), some (.inl (nI (L c))))) rfl (Nat.le_of_ble_eq_true rfl) ?_
    show pR _ _ _ _ _ _ _ _ 0 [(0, .inr (.inr 0)), (1, .inl (nI c))] [] (grM I n P, J)
    refine pr_iload_n tX8_rootOf_0 1 rfl ?_
    refine pr_istore_n (L' := [(2, .inl (nI c)), (0, .inr (.inr 0)), (1, .inl (nI c))]) tX8_rootOf_1 (by decide) rfl ?_
    refine pR_sub (L' := [(2, .inl (nI c)), (0, .inr (.inr 0))]) [0, 1] rfl ?_
    exact lp_X8_rootOf hn hF (c + 1) c (Nat.lt_succ_self _) hc rfl
  obtain ⟨x_, h1, h2⟩ := key
  rw [h1, h2]

set_option maxRecDepth 100000 in
theorem lp_X8_touches (σ : pST) {A : AtS} {c k : Nat} (hc : c < 16) (hk : k < 32) (hA : RMat σ c A) (hok : AtOK c A) : ∀ (m i : Nat), i + m = A.kn → pR shM tX8_touches fX8_touches qX8_touches lX8_touches 5 2 (fun x => x = (σ, some (.inl (nI (tcN A k A.kn))))) 32 [(4, .inl (nI i)), (3, .inl (nI (tcN A k i))), (0, .inr (.inr 0)), (1, .inl (nI c)), (2, .inl (nI k))] [] σ := by
  have hk12 := hok.k12
  intro m
  induction m with
  | zero =>
    intro i hi
    refine pr_iload tX8_touches_32 0 rfl ?_
    refine pr_aload_n tX8_touches_34 2 rfl ?_
    refine pr_geta (j := 12) tX8_touches_35 rfl rfl rfl rfl ?_
    refine pr_iload_n tX8_touches_38 3 rfl ?_
    refine pr_ial tX8_touches_39 c rfl rfl (by omega) (by decide) ?_
    refine pR_topi (y := (nI A.kn)) (hA.kn) ?_
    refine pr_ic_ge (pc' := 75) tX8_touches_40 rfl (fun hc40 => ?_) (fun hc40 => ?_)
    · skip
      have hc40 : A.kn ≤ i := (nI_leI (by omega) (by omega)).mp hc40
      refine pr_iload_n tX8_touches_75 1 rfl ?_
      refine pr_zret tX8_touches_76 rfl (by have z := tcN_le (A := A) (k := k) i; have : tcN A k i = 0 ∨ tcN A k i = 1 := (by clear hA hok; omega); rcases this with q | q <;> rw [q] <;> decide) ?_
      rw [show i = A.kn by clear hA hok; omega]
    · skip
      exact absurd ((nI_leI (by omega) (by omega)).mpr (by omega)) hc40
  | succ m ih =>
    intro i hi
    refine pr_iload tX8_touches_32 0 rfl ?_
    refine pr_aload_n tX8_touches_34 2 rfl ?_
    refine pr_geta (j := 12) tX8_touches_35 rfl rfl rfl rfl ?_
    refine pr_iload_n tX8_touches_38 3 rfl ?_
    refine pr_ial tX8_touches_39 c rfl rfl (by omega) (by decide) ?_
    refine pR_topi (y := (nI A.kn)) (hA.kn) ?_
    refine pr_ic_ge (pc' := 75) tX8_touches_40 rfl (fun hc40 => ?_) (fun hc40 => ?_)
    · skip
      exact absurd ((nI_leI (by omega) (by omega)).mp hc40) (by omega)
    · skip
      have hc40 : ¬ A.kn ≤ i := fun z9 => hc40 ((nI_leI (by omega) (by omega)).mpr z9)
      have ht1 := tcN_le (A := A) (k := k) i
      have hkl := (hok.kl i (by clear hA; omega)).1
      refine pr_iload_n tX8_touches_43 1 rfl ?_
      refine pr_if_ne (pc' := 63) tX8_touches_44 rfl (fun hc44 => ?_) (fun hc44 => ?_)
      · skip
        have hc44 : ¬ (tcN A k i) = 0 := fun z9 => hc44 (by have z8 := (nI_eq (by omega) (by omega)).mpr z9; rw [nI_0] at z8; exact z8)
        refine pr_iconst (v := nI 1) tX8_touches_63 rfl ?_
        refine pr_goto (pc' := 68) tX8_touches_64 rfl ?_
        refine pr_istore_n (L' := [(3, .inl (nI 1)), (4, .inl (nI i)), (0, .inr (.inr 0)), (1, .inl (nI c)), (2, .inl (nI k))]) tX8_touches_68 (by decide) rfl ?_
        refine pr_iinc (v := (nI (i + 1))) (L' := [(4, .inl (nI (i + 1))), (3, .inl (nI 1)), (0, .inr (.inr 0)), (1, .inl (nI c)), (2, .inl (nI k))]) tX8_touches_69 1 rfl (nI_1 _) (by decide) rfl ?_
        refine pr_goto (pc' := 32) tX8_touches_72 rfl ?_
        refine pR_sub (L' := [(4, .inl (nI (i + 1))), (3, .inl (nI 1)), (0, .inr (.inr 0)), (1, .inl (nI c)), (2, .inl (nI k))]) [0, 1, 2, 3, 4] rfl ?_
        have z := ih (i + 1) (by clear hA hok; omega)
        rw [show tcN A k (i + 1) = 1 from by rw [tcN_s]; rw [if_pos (by clear hA hok ih; omega)]] at z
        exact z
      · skip
        have hc44 : (tcN A k i) = 0 := (nI_eq (by omega) (by omega)).mp (by rw [nI_0]; exact Decidable.not_not.mp hc44)
        refine pr_aload_n tX8_touches_47 2 rfl ?_
        refine pr_geta (j := 13) tX8_touches_48 rfl rfl rfl rfl ?_
        refine pr_bipush (v := nI 32) tX8_touches_51 rfl ?_
        refine pr_iload_n tX8_touches_53 3 rfl ?_
        refine pr_imul (v := (nI (32 * c))) tX8_touches_54 (pk_mul _ _) ?_
        refine pr_iload tX8_touches_55 0 rfl ?_
        refine pr_iadd (v := (nI (32 * c + i))) tX8_touches_57 (nI_add _ _) ?_
        refine pr_ial tX8_touches_58 (32 * c + i) rfl rfl (by omega) (by decide) ?_
        refine pR_topi (y := (nI (A.kl i))) ((hA.kl i (by clear hA hok; omega)).1) ?_
        refine pr_iload_n tX8_touches_59 4 rfl ?_
        refine pr_ic_ne (pc' := 67) tX8_touches_60 rfl (fun hc60 => ?_) (fun hc60 => ?_)
        · skip
          have hc60 : ¬ (A.kl i) = k := fun z9 => hc60 ((nI_eq (by omega) (by omega)).mpr z9)
          refine pr_iconst (v := nI 0) tX8_touches_67 rfl ?_
          refine pr_istore_n (L' := [(3, .inl (nI 0)), (4, .inl (nI i)), (0, .inr (.inr 0)), (1, .inl (nI c)), (2, .inl (nI k))]) tX8_touches_68 (by decide) rfl ?_
          refine pr_iinc (v := (nI (i + 1))) (L' := [(4, .inl (nI (i + 1))), (3, .inl (nI 0)), (0, .inr (.inr 0)), (1, .inl (nI c)), (2, .inl (nI k))]) tX8_touches_69 1 rfl (nI_1 _) (by decide) rfl ?_
          refine pr_goto (pc' := 32) tX8_touches_72 rfl ?_
          refine pR_sub (L' := [(4, .inl (nI (i + 1))), (3, .inl (nI 0)), (0, .inr (.inr 0)), (1, .inl (nI c)), (2, .inl (nI k))]) [0, 1, 2, 3, 4] rfl ?_
          have z := ih (i + 1) (by clear hA hok; omega)
          rw [show tcN A k (i + 1) = 0 from by rw [tcN_s]; rw [if_neg (by clear hA hok ih; omega)]] at z
          exact z
        · skip
          have hc60 : (A.kl i) = k := (nI_eq (by omega) (by omega)).mp (Decidable.not_not.mp hc60)
          refine pr_iconst (v := nI 1) tX8_touches_63 rfl ?_
          refine pr_goto (pc' := 68) tX8_touches_64 rfl ?_
          refine pr_istore_n (L' := [(3, .inl (nI 1)), (4, .inl (nI i)), (0, .inr (.inr 0)), (1, .inl (nI c)), (2, .inl (nI k))]) tX8_touches_68 (by decide) rfl ?_
          refine pr_iinc (v := (nI (i + 1))) (L' := [(4, .inl (nI (i + 1))), (3, .inl (nI 1)), (0, .inr (.inr 0)), (1, .inl (nI c)), (2, .inl (nI k))]) tX8_touches_69 1 rfl (nI_1 _) (by decide) rfl ?_
          refine pr_goto (pc' := 32) tX8_touches_72 rfl ?_
          refine pR_sub (L' := [(4, .inl (nI (i + 1))), (3, .inl (nI 1)), (0, .inr (.inr 0)), (1, .inl (nI c)), (2, .inl (nI k))]) [0, 1, 2, 3, 4] rfl ?_
          have z := ih (i + 1) (by clear hA hok; omega)
          rw [show tcN A k (i + 1) = 1 from by rw [tcN_s]; rw [if_pos (by clear hA hok ih; omega)]] at z
          exact z

set_option maxRecDepth 100000 in
theorem ev_X8_touches (σ : pST) {A : AtS} {c k : Nat} (hc : c < 16) (hk : k < 32) (hA : RMat σ c A) (hok : AtOK c A) : kX8_touches σ [.inr (.inr 0), .inl (nI c), .inl (nI k)] = some ((σ, some (.inl (nI (tcN A k A.kn))))) := by
  have key : ∃ x, kX8_touches σ [.inr (.inr 0), .inl (nI c), .inl (nI k)] = some x ∧ x = (σ, some (.inl (nI (tcN A k A.kn)))) := by
    refine pR_met (post := fun x => x = (σ, some (.inl (nI (tcN A k A.kn))))) rfl (Nat.le_of_ble_eq_true rfl) ?_
    show pR _ _ _ _ _ _ _ _ 0 [(0, .inr (.inr 0)), (1, .inl (nI c)), (2, .inl (nI k))] [] σ
    refine pr_aload_n tX8_touches_0 0 rfl ?_
    refine pr_geta (j := 10) tX8_touches_1 rfl rfl rfl rfl ?_
    refine pr_bipush (v := nI 32) tX8_touches_4 rfl ?_
    refine pr_iload_n tX8_touches_6 1 rfl ?_
    refine pr_imul (v := (nI (32 * c))) tX8_touches_7 (pk_mul _ _) ?_
    refine pr_iload_n tX8_touches_8 2 rfl ?_
    refine pr_iadd (v := (nI (32 * c + k))) tX8_touches_9 (nI_add _ _) ?_
    refine pr_zal tX8_touches_10 (32 * c + k) rfl rfl (by omega) (by decide) ?_
    refine pr_if_eq (pc' := 27) tX8_touches_11 rfl (fun hc11 => ?_) (fun hc11 => ?_)
    · skip
      skip
      refine pr_iconst (v := nI 0) tX8_touches_27 rfl ?_
      refine pr_istore_n (L' := [(3, .inl (nI 0)), (0, .inr (.inr 0)), (1, .inl (nI c)), (2, .inl (nI k))]) tX8_touches_28 (by decide) rfl ?_
      refine pr_iconst (v := nI 0) tX8_touches_29 rfl ?_
      refine pr_istore (L' := [(4, .inl (nI 0)), (3, .inl (nI 0)), (0, .inr (.inr 0)), (1, .inl (nI c)), (2, .inl (nI k))]) tX8_touches_30 (by decide) rfl ?_
      refine pR_sub (L' := [(4, .inl (nI 0)), (3, .inl (nI 0)), (0, .inr (.inr 0)), (1, .inl (nI c)), (2, .inl (nI k))]) [0, 1, 2, 3, 4] rfl ?_
      have z := lp_X8_touches σ hc hk hA hok A.kn 0 (Nat.zero_add _)
      have q := wrM_iff hA hk
      have e0 : tcN A k 0 = 0 := by
        unfold tcN
        cases hw : wrA A k with
        | true => 
          have w := q.mpr hw
          first
            | exact absurd hc11 w.1
            | exact absurd w.2 hc20
        | false => rfl
      rw [e0] at z
      exact z
    · skip
      skip
      refine pr_aload_n tX8_touches_14 0 rfl ?_
      refine pr_geta (j := 9) tX8_touches_15 rfl rfl rfl rfl ?_
      refine pr_iload_n tX8_touches_18 1 rfl ?_
      refine pr_zal tX8_touches_19 c rfl rfl (by omega) (by decide) ?_
      refine pr_if_ne (pc' := 27) tX8_touches_20 rfl (fun hc20 => ?_) (fun hc20 => ?_)
      · skip
        skip
        refine pr_iconst (v := nI 0) tX8_touches_27 rfl ?_
        refine pr_istore_n (L' := [(3, .inl (nI 0)), (0, .inr (.inr 0)), (1, .inl (nI c)), (2, .inl (nI k))]) tX8_touches_28 (by decide) rfl ?_
        refine pr_iconst (v := nI 0) tX8_touches_29 rfl ?_
        refine pr_istore (L' := [(4, .inl (nI 0)), (3, .inl (nI 0)), (0, .inr (.inr 0)), (1, .inl (nI c)), (2, .inl (nI k))]) tX8_touches_30 (by decide) rfl ?_
        refine pR_sub (L' := [(4, .inl (nI 0)), (3, .inl (nI 0)), (0, .inr (.inr 0)), (1, .inl (nI c)), (2, .inl (nI k))]) [0, 1, 2, 3, 4] rfl ?_
        have z := lp_X8_touches σ hc hk hA hok A.kn 0 (Nat.zero_add _)
        have q := wrM_iff hA hk
        have e0 : tcN A k 0 = 0 := by
          unfold tcN
          cases hw : wrA A k with
          | true => 
            have w := q.mpr hw
            first
              | exact absurd hc11 w.1
              | exact absurd w.2 hc20
          | false => rfl
        rw [e0] at z
        exact z
      · skip
        have hc20 := Decidable.not_not.mp hc20
        refine pr_iconst (v := nI 1) tX8_touches_23 rfl ?_
        refine pr_goto (pc' := 28) tX8_touches_24 rfl ?_
        refine pr_istore_n (L' := [(3, .inl (nI 1)), (0, .inr (.inr 0)), (1, .inl (nI c)), (2, .inl (nI k))]) tX8_touches_28 (by decide) rfl ?_
        refine pr_iconst (v := nI 0) tX8_touches_29 rfl ?_
        refine pr_istore (L' := [(4, .inl (nI 0)), (3, .inl (nI 1)), (0, .inr (.inr 0)), (1, .inl (nI c)), (2, .inl (nI k))]) tX8_touches_30 (by decide) rfl ?_
        refine pR_sub (L' := [(4, .inl (nI 0)), (3, .inl (nI 1)), (0, .inr (.inr 0)), (1, .inl (nI c)), (2, .inl (nI k))]) [0, 1, 2, 3, 4] rfl ?_
        have z := lp_X8_touches σ hc hk hA hok A.kn 0 (Nat.zero_add _)
        have q := wrM_iff hA hk
        have e0 : tcN A k 0 = 1 := by
          unfold tcN
          cases hw : wrA A k with
          | true => rfl
          | false => rw [q.mp ⟨hc11, hc20⟩] at hw; cases hw
        rw [e0] at z
        exact z
  obtain ⟨x, h1, h2⟩ := key
  rw [h1, h2]
