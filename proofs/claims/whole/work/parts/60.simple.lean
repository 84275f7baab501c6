set_option maxRecDepth 100000 in
theorem ev_X2_addCall (σ : pST) {c : Nat} (hc : c ≤ 16) (h : σ.1 2 0 = nI c) : kX2_addCall σ [.inr (.inr 2)] = some (if c < 16 then ((pm_ui (pm_ui σ.1 3 c 0) 2 0 (nI (c + 1)), σ.2), some (.inl (nI c))) else (σ, some (.inl (-1)))) := by
  have key : ∃ x, kX2_addCall σ [.inr (.inr 2)] = some x ∧ x = if c < 16 then ((pm_ui (pm_ui σ.1 3 c 0) 2 0 (nI (c + 1)), σ.2), some (.inl (nI c))) else (σ, some (.inl (-1))) := by
    refine pR_met (post := fun x => x = if c < 16 then ((pm_ui (pm_ui σ.1 3 c 0) 2 0 (nI (c + 1)), σ.2), some (.inl (nI c))) else (σ, some (.inl (-1)))) rfl (Nat.le_of_ble_eq_true rfl) ?_
    show pR _ _ _ _ _ _ _ _ 0 [(0, .inr (.inr 2))] [] σ
    refine pr_aload_n tX2_addCall_0 0 rfl ?_
    refine pr_get0 tX2_addCall_1 rfl rfl rfl ?_
    refine pR_topi (y := (nI c)) (by simp [pm_ui, pm_uj, upd, vp_updL, h]) ?_
    refine pr_bipush (v := nI 16) tX2_addCall_4 rfl ?_
    refine pr_ic_lt (pc' := 11) tX2_addCall_6 rfl (fun hc6 => ?_) (fun hc6 => ?_)
    · skip
      have hc6 : c < 16 := (nI_ltI (by omega) (by omega)).mp hc6
      refine pr_aload_n tX2_addCall_11 0 rfl ?_
      refine pr_geta (j := 3) tX2_addCall_12 rfl rfl rfl rfl ?_
      refine pr_aload_n tX2_addCall_15 0 rfl ?_
      refine pr_get0 tX2_addCall_16 rfl rfl rfl ?_
      refine pR_topi (y := (nI c)) (by simp [pm_ui, pm_uj, upd, vp_updL, h]) ?_
      refine pr_iconst (v := nI 0) tX2_addCall_19 rfl ?_
      refine pr_ias tX2_addCall_20 c rfl rfl (by omega) (by decide) ?_
      obtain ⟨σ1, eσ1⟩ : ∃ z : pST, z = (pm_ui σ.1 3 c (nI 0), σ.2) := ⟨_, rfl⟩
      rw [← eσ1]
      refine pr_aload_n tX2_addCall_21 0 rfl ?_
      refine pr_dup tX2_addCall_22 rfl ?_
      refine pr_get0 tX2_addCall_23 rfl rfl rfl ?_
      refine pR_topi (y := (nI c)) (by simp [eσ1, pm_ui, pm_uj, upd, vp_updL, h]) ?_
      refine pr_iconst (v := nI 1) tX2_addCall_26 rfl ?_
      refine pr_iadd (v := (nI (c + 1))) tX2_addCall_27 (nI_add _ _) ?_
      refine pr_put0 tX2_addCall_28 rfl rfl rfl ?_
      obtain ⟨σ2, eσ2⟩ : ∃ z : pST, z = (pm_ui σ1.1 2 0 (nI (c + 1)), σ1.2) := ⟨_, rfl⟩
      rw [← eσ2]
      refine pr_aload_n tX2_addCall_31 0 rfl ?_
      refine pr_get0 tX2_addCall_32 rfl rfl rfl ?_
      refine pR_topi (y := (nI (c + 1))) (by simp [eσ1, eσ2, pm_ui, pm_uj, upd, vp_updL]) ?_
      refine pr_iconst (v := nI 1) tX2_addCall_35 rfl ?_
      refine pr_isub (v := (nI c)) tX2_addCall_36 (nI_pred c) ?_
      refine pr_iret tX2_addCall_37 rfl ?_
      rw [if_pos hc6, eσ2, eσ1]
      rfl
    · skip
      have hc6 : ¬ c < 16 := fun z9 => hc6 ((nI_ltI (by omega) (by omega)).mpr z9)
      refine pr_iconst (v := -1) tX2_addCall_9 rfl ?_
      refine pr_iret tX2_addCall_10 rfl ?_
      rw [if_neg hc6]
  obtain ⟨x, h1, h2⟩ := key
  rw [h1, h2]

set_option maxRecDepth 100000 in
theorem ev_X2_dropCalls (σ : pST) : kX2_dropCalls σ [.inr (.inr 2)] = some (((pm_ui σ.1 2 0 0, σ.2), some (.inl (σ.1 2 0)))) := by
  have key : ∃ x, kX2_dropCalls σ [.inr (.inr 2)] = some x ∧ x = ((pm_ui σ.1 2 0 0, σ.2), some (.inl (σ.1 2 0))) := by
    refine pR_met (post := fun x => x = ((pm_ui σ.1 2 0 0, σ.2), some (.inl (σ.1 2 0)))) rfl (Nat.le_of_ble_eq_true rfl) ?_
    show pR _ _ _ _ _ _ _ _ 0 [(0, .inr (.inr 2))] [] σ
    refine pr_aload_n tX2_dropCalls_0 0 rfl ?_
    refine pr_get0 tX2_dropCalls_1 rfl rfl rfl ?_
    refine pr_istore_n (L' := [(1, .inl (σ.1 2 0)), (0, .inr (.inr 2))]) tX2_dropCalls_4 (by decide) rfl ?_
    refine pr_aload_n tX2_dropCalls_5 1 rfl ?_
    refine pr_iconst (v := nI 0) tX2_dropCalls_6 rfl ?_
    refine pr_put0 tX2_dropCalls_7 rfl rfl rfl ?_
    obtain ⟨σ1, eσ1⟩ : ∃ z : pST, z = (pm_ui σ.1 2 0 (nI 0), σ.2) := ⟨_, rfl⟩
    rw [← eσ1]
    refine pr_iload_n tX2_dropCalls_10 0 rfl ?_
    refine pr_iret tX2_dropCalls_11 rfl ?_
    rw [eσ1]
    rfl
  obtain ⟨x, h1, h2⟩ := key
  rw [h1, h2]

set_option maxRecDepth 100000 in
theorem ev_X8_call (σ : pST) {c : Nat} (hc : c ≤ 16) (h : σ.1 0 1 = nI c) : kX8_call σ [.inr (.inr 0)] = some (if c < 16 then ((pm_ui (pm_ui σ.1 2 c 0) 0 1 (nI (c + 1)), σ.2), some (.inl (nI c))) else (σ, some (.inl (-1)))) := by
  have key : ∃ x, kX8_call σ [.inr (.inr 0)] = some x ∧ x = if c < 16 then ((pm_ui (pm_ui σ.1 2 c 0) 0 1 (nI (c + 1)), σ.2), some (.inl (nI c))) else (σ, some (.inl (-1))) := by
    refine pR_met (post := fun x => x = if c < 16 then ((pm_ui (pm_ui σ.1 2 c 0) 0 1 (nI (c + 1)), σ.2), some (.inl (nI c))) else (σ, some (.inl (-1)))) rfl (Nat.le_of_ble_eq_true rfl) ?_
    show pR _ _ _ _ _ _ _ _ 0 [(0, .inr (.inr 0))] [] σ
    refine pr_aload_n tX8_call_0 0 rfl ?_
    refine pr_get0 tX8_call_1 rfl rfl rfl ?_
    refine pR_topi (y := (nI c)) (by simp [pm_ui, pm_uj, upd, vp_updL, h]) ?_
    refine pr_bipush (v := nI 16) tX8_call_4 rfl ?_
    refine pr_ic_ne (pc' := 11) tX8_call_6 rfl (fun hc6 => ?_) (fun hc6 => ?_)
    · skip
      have hc6 : ¬ c = 16 := fun z9 => hc6 ((nI_eq (by omega) (by omega)).mpr z9)
      refine pr_aload_n tX8_call_11 0 rfl ?_
      refine pr_geta (j := 2) tX8_call_12 rfl rfl rfl rfl ?_
      refine pr_aload_n tX8_call_15 0 rfl ?_
      refine pr_get0 tX8_call_16 rfl rfl rfl ?_
      refine pR_topi (y := (nI c)) (by simp [pm_ui, pm_uj, upd, vp_updL, h]) ?_
      refine pr_iconst (v := nI 0) tX8_call_19 rfl ?_
      refine pr_ias tX8_call_20 c rfl rfl (by omega) (by decide) ?_
      obtain ⟨σ1, eσ1⟩ : ∃ z : pST, z = (pm_ui σ.1 2 c (nI 0), σ.2) := ⟨_, rfl⟩
      rw [← eσ1]
      refine pr_aload_n tX8_call_21 0 rfl ?_
      refine pr_dup tX8_call_22 rfl ?_
      refine pr_get0 tX8_call_23 rfl rfl rfl ?_
      refine pR_topi (y := (nI c)) (by simp [eσ1, pm_ui, pm_uj, upd, vp_updL, h]) ?_
      refine pr_iconst (v := nI 1) tX8_call_26 rfl ?_
      refine pr_iadd (v := (nI (c + 1))) tX8_call_27 (nI_add _ _) ?_
      refine pr_put0 tX8_call_28 rfl rfl rfl ?_
      obtain ⟨σ2, eσ2⟩ : ∃ z : pST, z = (pm_ui σ1.1 0 1 (nI (c + 1)), σ1.2) := ⟨_, rfl⟩
      rw [← eσ2]
      refine pr_aload_n tX8_call_31 0 rfl ?_
      refine pr_get0 tX8_call_32 rfl rfl rfl ?_
      refine pR_topi (y := (nI (c + 1))) (by simp [eσ1, eσ2, pm_ui, pm_uj, upd, vp_updL]) ?_
      refine pr_iconst (v := nI 1) tX8_call_35 rfl ?_
      refine pr_isub (v := (nI c)) tX8_call_36 (nI_pred c) ?_
      refine pr_iret tX8_call_37 rfl ?_
      rw [if_pos (by omega), eσ2, eσ1]
      rfl
    · skip
      have hc6 : c = 16 := (nI_eq (by omega) (by omega)).mp (Decidable.not_not.mp hc6)
      refine pr_iconst (v := -1) tX8_call_9 rfl ?_
      refine pr_iret tX8_call_10 rfl ?_
      rw [if_neg (by omega)]
  obtain ⟨x, h1, h2⟩ := key
  rw [h1, h2]

set_option maxRecDepth 100000 in
theorem ev_X8_clear (σ : pST) : kX8_clear σ [.inr (.inr 0)] = some (((pm_ui σ.1 0 1 0, σ.2), some (.inl (σ.1 0 1)))) := by
  have key : ∃ x, kX8_clear σ [.inr (.inr 0)] = some x ∧ x = ((pm_ui σ.1 0 1 0, σ.2), some (.inl (σ.1 0 1))) := by
    refine pR_met (post := fun x => x = ((pm_ui σ.1 0 1 0, σ.2), some (.inl (σ.1 0 1)))) rfl (Nat.le_of_ble_eq_true rfl) ?_
    show pR _ _ _ _ _ _ _ _ 0 [(0, .inr (.inr 0))] [] σ
    refine pr_aload_n tX8_clear_0 0 rfl ?_
    refine pr_get0 tX8_clear_1 rfl rfl rfl ?_
    refine pr_istore_n (L' := [(1, .inl (σ.1 0 1)), (0, .inr (.inr 0))]) tX8_clear_4 (by decide) rfl ?_
    refine pr_aload_n tX8_clear_5 1 rfl ?_
    refine pr_iconst (v := nI 0) tX8_clear_6 rfl ?_
    refine pr_put0 tX8_clear_7 rfl rfl rfl ?_
    obtain ⟨σ1, eσ1⟩ : ∃ z : pST, z = (pm_ui σ.1 0 1 (nI 0), σ.2) := ⟨_, rfl⟩
    rw [← eσ1]
    refine pr_iload_n tX8_clear_10 0 rfl ?_
    refine pr_iret tX8_clear_11 rfl ?_
    rw [eσ1]
    rfl
  obtain ⟨x, h1, h2⟩ := key
  rw [h1, h2]

set_option maxRecDepth 100000 in
theorem ev_X8_leaf_in (σ : pST) {j : Nat} (hj : j < 32) (v : Int64) : kX8_leaf σ [.inr (.inr 0), .inl (nI j), .inr (.inl v)] = some (((σ.1, pm_uj σ.2 1 j v), some (.inl 1))) := by
  have key : ∃ x, kX8_leaf σ [.inr (.inr 0), .inl (nI j), .inr (.inl v)] = some x ∧ x = ((σ.1, pm_uj σ.2 1 j v), some (.inl 1)) := by
    refine pR_met (post := fun x => x = ((σ.1, pm_uj σ.2 1 j v), some (.inl 1))) rfl (Nat.le_of_ble_eq_true rfl) ?_
    show pR _ _ _ _ _ _ _ _ 0 [(0, .inr (.inr 0)), (1, .inl (nI j)), (2, .inr (.inl v))] [] σ
    refine pr_iload_n tX8_leaf_0 1 rfl ?_
    refine pr_if_lt (pc' := 10) tX8_leaf_1 rfl (fun hc1 => ?_) (fun hc1 => ?_)
    · skip
      exact absurd hc1 (nI_pos (by omega))
    · skip
      refine pr_iload_n tX8_leaf_4 1 rfl ?_
      refine pr_bipush (v := nI 32) tX8_leaf_5 rfl ?_
      refine pr_ic_lt (pc' := 12) tX8_leaf_7 rfl (fun hc7 => ?_) (fun hc7 => ?_)
      · skip
        have hc7 : j < 32 := (nI_ltI (by omega) (by omega)).mp hc7
        refine pr_aload_n tX8_leaf_12 0 rfl ?_
        refine pr_geta (j := 1) tX8_leaf_13 rfl rfl rfl rfl ?_
        refine pr_iload_n tX8_leaf_16 1 rfl ?_
        refine pr_lload_n tX8_leaf_17 2 rfl ?_
        refine pr_las tX8_leaf_18 j rfl rfl (by omega) (by decide) ?_
        obtain ⟨σ1, eσ1⟩ : ∃ z : pST, z = (σ.1, pm_uj σ.2 1 j v) := ⟨_, rfl⟩
        rw [← eσ1]
        refine pr_iconst (v := nI 1) tX8_leaf_19 rfl ?_
        refine pr_zret tX8_leaf_20 rfl (by decide) ?_
        rw [eσ1]
        rfl
      · skip
        exact absurd ((nI_ltI (by omega) (by omega)).mpr hj) hc7
  obtain ⟨x, h1, h2⟩ := key
  rw [h1, h2]

set_option maxRecDepth 100000 in
theorem ev_X8_leaf_out (σ : pST) {k : Int32} (hk : k < 0 ∨ nI 32 ≤ k) (v : Int64) : kX8_leaf σ [.inr (.inr 0), .inl k, .inr (.inl v)] = some ((σ, some (.inl 0))) := by
  have key : ∃ x, kX8_leaf σ [.inr (.inr 0), .inl k, .inr (.inl v)] = some x ∧ x = (σ, some (.inl 0)) := by
    refine pR_met (post := fun x => x = (σ, some (.inl 0))) rfl (Nat.le_of_ble_eq_true rfl) ?_
    show pR _ _ _ _ _ _ _ _ 0 [(0, .inr (.inr 0)), (1, .inl k), (2, .inr (.inl v))] [] σ
    refine pr_iload_n tX8_leaf_0 1 rfl ?_
    refine pr_if_lt (pc' := 10) tX8_leaf_1 rfl (fun hc1 => ?_) (fun hc1 => ?_)
    · skip
      refine pr_iconst (v := nI 0) tX8_leaf_10 rfl ?_
      refine pr_zret tX8_leaf_11 rfl (by decide) ?_
      rfl
    · skip
      refine pr_iload_n tX8_leaf_4 1 rfl ?_
      refine pr_bipush (v := nI 32) tX8_leaf_5 rfl ?_
      refine pr_ic_lt (pc' := 12) tX8_leaf_7 rfl (fun hc7 => ?_) (fun hc7 => ?_)
      · skip
        exact absurd hk (fun z => z.elim hc1 (fun z => Int32.not_lt.mpr z hc7))
      · skip
        refine pr_iconst (v := nI 0) tX8_leaf_10 rfl ?_
        refine pr_zret tX8_leaf_11 rfl (by decide) ?_
        rfl
  obtain ⟨x, h1, h2⟩ := key
  rw [h1, h2]

set_option maxRecDepth 100000 in
theorem ev_X8_at_in (σ : pST) {j : Nat} (hj : j < 32) : kX8_at σ [.inr (.inr 0), .inl (nI j)] = some ((σ, some (.inr (.inl (σ.2 1 j))))) := by
  have key : ∃ x, kX8_at σ [.inr (.inr 0), .inl (nI j)] = some x ∧ x = (σ, some (.inr (.inl (σ.2 1 j)))) := by
    refine pR_met (post := fun x => x = (σ, some (.inr (.inl (σ.2 1 j))))) rfl (Nat.le_of_ble_eq_true rfl) ?_
    show pR _ _ _ _ _ _ _ _ 0 [(0, .inr (.inr 0)), (1, .inl (nI j))] [] σ
    refine pr_iload_n tX8_at_0 1 rfl ?_
    refine pr_if_lt (pc' := 19) tX8_at_1 rfl (fun hc1 => ?_) (fun hc1 => ?_)
    · skip
      exact absurd hc1 (nI_pos (by omega))
    · skip
      refine pr_iload_n tX8_at_4 1 rfl ?_
      refine pr_bipush (v := nI 32) tX8_at_5 rfl ?_
      refine pr_ic_ge (pc' := 19) tX8_at_7 rfl (fun hc7 => ?_) (fun hc7 => ?_)
      · skip
        exact absurd ((nI_leI (by omega) (by omega)).mp hc7) (by omega)
      · skip
        have hc7 : ¬ 32 ≤ j := fun z9 => hc7 ((nI_leI (by omega) (by omega)).mpr z9)
        refine pr_aload_n tX8_at_10 0 rfl ?_
        refine pr_geta (j := 1) tX8_at_11 rfl rfl rfl rfl ?_
        refine pr_iload_n tX8_at_14 1 rfl ?_
        refine pr_lal tX8_at_15 j rfl rfl (by omega) (by decide) ?_
        refine pr_goto (pc' := 20) tX8_at_16 rfl ?_
        refine pr_lret tX8_at_20 rfl ?_
        rfl
  obtain ⟨x, h1, h2⟩ := key
  rw [h1, h2]

set_option maxRecDepth 100000 in
theorem ev_X8_at_out (σ : pST) {k : Int32} (hk : k < 0 ∨ nI 32 ≤ k) : kX8_at σ [.inr (.inr 0), .inl k] = some ((σ, some (.inr (.inl 0)))) := by
  have key : ∃ x, kX8_at σ [.inr (.inr 0), .inl k] = some x ∧ x = (σ, some (.inr (.inl 0))) := by
    refine pR_met (post := fun x => x = (σ, some (.inr (.inl 0)))) rfl (Nat.le_of_ble_eq_true rfl) ?_
    show pR _ _ _ _ _ _ _ _ 0 [(0, .inr (.inr 0)), (1, .inl k)] [] σ
    refine pr_iload_n tX8_at_0 1 rfl ?_
    refine pr_if_lt (pc' := 19) tX8_at_1 rfl (fun hc1 => ?_) (fun hc1 => ?_)
    · skip
      refine pr_lconst (v := 0) tX8_at_19 rfl ?_
      refine pr_lret tX8_at_20 rfl ?_
      rfl
    · skip
      refine pr_iload_n tX8_at_4 1 rfl ?_
      refine pr_bipush (v := nI 32) tX8_at_5 rfl ?_
      refine pr_ic_ge (pc' := 19) tX8_at_7 rfl (fun hc7 => ?_) (fun hc7 => ?_)
      · skip
        refine pr_lconst (v := 0) tX8_at_19 rfl ?_
        refine pr_lret tX8_at_20 rfl ?_
        rfl
      · skip
        exact absurd hk (fun z => z.elim hc1 hc7)
  obtain ⟨x, h1, h2⟩ := key
  rw [h1, h2]

set_option maxRecDepth 100000 in
theorem ev_X8_bound_in (σ : pST) {j : Nat} (h1 : 1 ≤ j) (hj : j ≤ 100) : kX8_bound σ [.inr (.inr 0), .inl (nI j)] = some (((pm_ui σ.1 0 2 (nI j), σ.2), some (.inl 1))) := by
  have key : ∃ x, kX8_bound σ [.inr (.inr 0), .inl (nI j)] = some x ∧ x = ((pm_ui σ.1 0 2 (nI j), σ.2), some (.inl 1)) := by
    refine pR_met (post := fun x => x = ((pm_ui σ.1 0 2 (nI j), σ.2), some (.inl 1))) rfl (Nat.le_of_ble_eq_true rfl) ?_
    show pR _ _ _ _ _ _ _ _ 0 [(0, .inr (.inr 0)), (1, .inl (nI j))] [] σ
    refine pr_iload_n tX8_bound_0 1 rfl ?_
    refine pr_iconst (v := nI 1) tX8_bound_1 rfl ?_
    refine pr_ic_lt (pc' := 11) tX8_bound_2 rfl (fun hc2 => ?_) (fun hc2 => ?_)
    · skip
      exact absurd ((nI_ltI (by omega) (by omega)).mp hc2) (by omega)
    · skip
      have hc2 : ¬ j < 1 := fun z9 => hc2 ((nI_ltI (by omega) (by omega)).mpr z9)
      refine pr_iload_n tX8_bound_5 1 rfl ?_
      refine pr_bipush (v := nI 100) tX8_bound_6 rfl ?_
      refine pr_ic_le (pc' := 13) tX8_bound_8 rfl (fun hc8 => ?_) (fun hc8 => ?_)
      · skip
        have hc8 : j ≤ 100 := (nI_leI (by omega) (by omega)).mp hc8
        refine pr_aload_n tX8_bound_13 0 rfl ?_
        refine pr_iload_n tX8_bound_14 1 rfl ?_
        refine pr_put0 tX8_bound_15 rfl rfl rfl ?_
        obtain ⟨σ1, eσ1⟩ : ∃ z : pST, z = (pm_ui σ.1 0 2 (nI j), σ.2) := ⟨_, rfl⟩
        rw [← eσ1]
        refine pr_iconst (v := nI 1) tX8_bound_18 rfl ?_
        refine pr_zret tX8_bound_19 rfl (by decide) ?_
        rw [eσ1]
        rfl
      · skip
        exact absurd ((nI_leI (by omega) (by omega)).mpr hj) hc8
  obtain ⟨x, h1, h2⟩ := key
  rw [h1, h2]

set_option maxRecDepth 100000 in
theorem ev_X8_bound_out (σ : pST) {k : Int32} (hk : k < nI 1 ∨ nI 100 < k) : kX8_bound σ [.inr (.inr 0), .inl k] = some ((σ, some (.inl 0))) := by
  have key : ∃ x, kX8_bound σ [.inr (.inr 0), .inl k] = some x ∧ x = (σ, some (.inl 0)) := by
    refine pR_met (post := fun x => x = (σ, some (.inl 0))) rfl (Nat.le_of_ble_eq_true rfl) ?_
    show pR _ _ _ _ _ _ _ _ 0 [(0, .inr (.inr 0)), (1, .inl k)] [] σ
    refine pr_iload_n tX8_bound_0 1 rfl ?_
    refine pr_iconst (v := nI 1) tX8_bound_1 rfl ?_
    refine pr_ic_lt (pc' := 11) tX8_bound_2 rfl (fun hc2 => ?_) (fun hc2 => ?_)
    · skip
      refine pr_iconst (v := nI 0) tX8_bound_11 rfl ?_
      refine pr_zret tX8_bound_12 rfl (by decide) ?_
      rfl
    · skip
      refine pr_iload_n tX8_bound_5 1 rfl ?_
      refine pr_bipush (v := nI 100) tX8_bound_6 rfl ?_
      refine pr_ic_le (pc' := 13) tX8_bound_8 rfl (fun hc8 => ?_) (fun hc8 => ?_)
      · skip
        exact absurd hk (fun z => z.elim hc2 (fun z => Int32.not_le.mpr z hc8))
      · skip
        refine pr_iconst (v := nI 0) tX8_bound_11 rfl ?_
        refine pr_zret tX8_bound_12 rfl (by decide) ?_
        rfl
  obtain ⟨x, h1, h2⟩ := key
  rw [h1, h2]

set_option maxRecDepth 100000 in
theorem ev_X7_isLeaf_in (σ : pST) {j : Nat} (hj : j < 32) : kX7_isLeaf σ [.inl (nI j)] = some ((σ, some (.inl 1))) := by
  have key : ∃ x, kX7_isLeaf σ [.inl (nI j)] = some x ∧ x = (σ, some (.inl 1)) := by
    refine pR_metS (post := fun x => x = (σ, some (.inl 1))) (Nat.le_of_ble_eq_true rfl) ?_
    show pR _ _ _ _ _ _ _ _ 0 [(0, .inl (nI j))] [] σ
    refine pr_iload_n tX7_isLeaf_0 0 rfl ?_
    refine pr_if_lt (pc' := 14) tX7_isLeaf_1 rfl (fun hc1 => ?_) (fun hc1 => ?_)
    · skip
      exact absurd hc1 (nI_pos (by omega))
    · skip
      refine pr_iload_n tX7_isLeaf_4 0 rfl ?_
      refine pr_bipush (v := nI 32) tX7_isLeaf_5 rfl ?_
      refine pr_ic_ge (pc' := 14) tX7_isLeaf_7 rfl (fun hc7 => ?_) (fun hc7 => ?_)
      · skip
        exact absurd ((nI_leI (by omega) (by omega)).mp hc7) (by omega)
      · skip
        have hc7 : ¬ 32 ≤ j := fun z9 => hc7 ((nI_leI (by omega) (by omega)).mpr z9)
        refine pr_iconst (v := nI 1) tX7_isLeaf_10 rfl ?_
        refine pr_goto (pc' := 15) tX7_isLeaf_11 rfl ?_
        refine pr_zret tX7_isLeaf_15 rfl (by decide) ?_
        rfl
  obtain ⟨x, h1, h2⟩ := key
  rw [h1, h2]

set_option maxRecDepth 100000 in
theorem ev_X7_isLeaf_out (σ : pST) {k : Int32} (hk : k < 0 ∨ nI 32 ≤ k) : kX7_isLeaf σ [.inl k] = some ((σ, some (.inl 0))) := by
  have key : ∃ x, kX7_isLeaf σ [.inl k] = some x ∧ x = (σ, some (.inl 0)) := by
    refine pR_metS (post := fun x => x = (σ, some (.inl 0))) (Nat.le_of_ble_eq_true rfl) ?_
    show pR _ _ _ _ _ _ _ _ 0 [(0, .inl k)] [] σ
    refine pr_iload_n tX7_isLeaf_0 0 rfl ?_
    refine pr_if_lt (pc' := 14) tX7_isLeaf_1 rfl (fun hc1 => ?_) (fun hc1 => ?_)
    · skip
      refine pr_iconst (v := nI 0) tX7_isLeaf_14 rfl ?_
      refine pr_zret tX7_isLeaf_15 rfl (by decide) ?_
      rfl
    · skip
      refine pr_iload_n tX7_isLeaf_4 0 rfl ?_
      refine pr_bipush (v := nI 32) tX7_isLeaf_5 rfl ?_
      refine pr_ic_ge (pc' := 14) tX7_isLeaf_7 rfl (fun hc7 => ?_) (fun hc7 => ?_)
      · skip
        refine pr_iconst (v := nI 0) tX7_isLeaf_14 rfl ?_
        refine pr_zret tX7_isLeaf_15 rfl (by decide) ?_
        rfl
      · skip
        exact absurd hk (fun z => z.elim hc1 hc7)
  obtain ⟨x, h1, h2⟩ := key
  rw [h1, h2]

set_option maxRecDepth 100000 in
theorem ev_X7_leaf_in (σ : pST) {j : Nat} (hj : j < 32) (v : Int64) : kX7_leaf σ [.inr (.inr 0), .inl (nI j), .inr (.inl v)] = some (((σ.1, pm_uj σ.2 1 j v), some (.inl 1))) := by
  have key : ∃ x, kX7_leaf σ [.inr (.inr 0), .inl (nI j), .inr (.inl v)] = some x ∧ x = ((σ.1, pm_uj σ.2 1 j v), some (.inl 1)) := by
    refine pR_met (post := fun x => x = ((σ.1, pm_uj σ.2 1 j v), some (.inl 1))) rfl (Nat.le_of_ble_eq_true rfl) ?_
    show pR _ _ _ _ _ _ _ _ 0 [(0, .inr (.inr 0)), (1, .inl (nI j)), (2, .inr (.inl v))] [] σ
    refine pr_iload_n tX7_leaf_0 1 rfl ?_
    refine pr_callS tX7_leaf_1 rfl ⟨Nat.le_of_ble_eq_true rfl, Nat.le_of_ble_eq_true rfl, rfl⟩ (ev_X7_isLeaf_in σ hj) ?_
    refine pR_eq (st' := [.inl 1]) rfl rfl ?_
    refine pr_if_ne (pc' := 9) tX7_leaf_4 rfl (fun hc4 => ?_) (fun hc4 => ?_)
    · skip
      skip
      refine pr_aload_n tX7_leaf_9 0 rfl ?_
      refine pr_geta (j := 1) tX7_leaf_10 rfl rfl rfl rfl ?_
      refine pr_iload_n tX7_leaf_13 1 rfl ?_
      refine pr_lload_n tX7_leaf_14 2 rfl ?_
      refine pr_las tX7_leaf_15 j rfl rfl (by omega) (by decide) ?_
      obtain ⟨σ1, eσ1⟩ : ∃ z : pST, z = (σ.1, pm_uj σ.2 1 j v) := ⟨_, rfl⟩
      rw [← eσ1]
      refine pr_iconst (v := nI 1) tX7_leaf_16 rfl ?_
      refine pr_zret tX7_leaf_17 rfl (by decide) ?_
      rw [eσ1]
      rfl
    · skip
      exact absurd (by decide) hc4
  obtain ⟨x, h1, h2⟩ := key
  rw [h1, h2]

set_option maxRecDepth 100000 in
theorem ev_X7_leaf_out (σ : pST) {k : Int32} (hk : k < 0 ∨ nI 32 ≤ k) (v : Int64) : kX7_leaf σ [.inr (.inr 0), .inl k, .inr (.inl v)] = some ((σ, some (.inl 0))) := by
  have key : ∃ x, kX7_leaf σ [.inr (.inr 0), .inl k, .inr (.inl v)] = some x ∧ x = (σ, some (.inl 0)) := by
    refine pR_met (post := fun x => x = (σ, some (.inl 0))) rfl (Nat.le_of_ble_eq_true rfl) ?_
    show pR _ _ _ _ _ _ _ _ 0 [(0, .inr (.inr 0)), (1, .inl k), (2, .inr (.inl v))] [] σ
    refine pr_iload_n tX7_leaf_0 1 rfl ?_
    refine pr_callS tX7_leaf_1 rfl ⟨Nat.le_of_ble_eq_true rfl, Nat.le_of_ble_eq_true rfl, rfl⟩ (ev_X7_isLeaf_out σ hk) ?_
    refine pR_eq (st' := [.inl 0]) rfl rfl ?_
    refine pr_if_ne (pc' := 9) tX7_leaf_4 rfl (fun hc4 => ?_) (fun hc4 => ?_)
    · skip
      exact absurd rfl hc4
    · skip
      skip
      refine pr_iconst (v := nI 0) tX7_leaf_7 rfl ?_
      refine pr_zret tX7_leaf_8 rfl (by decide) ?_
      rfl
  obtain ⟨x, h1, h2⟩ := key
  rw [h1, h2]

set_option maxRecDepth 100000 in
theorem ev_X7_at_in (σ : pST) {j : Nat} (hj : j < 32) : kX7_at σ [.inr (.inr 0), .inl (nI j)] = some ((σ, some (.inr (.inl (σ.2 1 j))))) := by
  have key : ∃ x, kX7_at σ [.inr (.inr 0), .inl (nI j)] = some x ∧ x = (σ, some (.inr (.inl (σ.2 1 j)))) := by
    refine pR_met (post := fun x => x = (σ, some (.inr (.inl (σ.2 1 j))))) rfl (Nat.le_of_ble_eq_true rfl) ?_
    show pR _ _ _ _ _ _ _ _ 0 [(0, .inr (.inr 0)), (1, .inl (nI j))] [] σ
    refine pr_iload_n tX7_at_0 1 rfl ?_
    refine pr_callS tX7_at_1 rfl ⟨Nat.le_of_ble_eq_true rfl, Nat.le_of_ble_eq_true rfl, rfl⟩ (ev_X7_isLeaf_in σ hj) ?_
    refine pR_eq (st' := [.inl 1]) rfl rfl ?_
    refine pr_if_eq (pc' := 16) tX7_at_4 rfl (fun hc4 => ?_) (fun hc4 => ?_)
    · skip
      exact absurd hc4 (by decide)
    · skip
      skip
      refine pr_aload_n tX7_at_7 0 rfl ?_
      refine pr_geta (j := 1) tX7_at_8 rfl rfl rfl rfl ?_
      refine pr_iload_n tX7_at_11 1 rfl ?_
      refine pr_lal tX7_at_12 j rfl rfl (by omega) (by decide) ?_
      refine pr_goto (pc' := 17) tX7_at_13 rfl ?_
      refine pr_lret tX7_at_17 rfl ?_
      rfl
  obtain ⟨x, h1, h2⟩ := key
  rw [h1, h2]

set_option maxRecDepth 100000 in
theorem ev_X7_at_out (σ : pST) {k : Int32} (hk : k < 0 ∨ nI 32 ≤ k) : kX7_at σ [.inr (.inr 0), .inl k] = some ((σ, some (.inr (.inl 0)))) := by
  have key : ∃ x, kX7_at σ [.inr (.inr 0), .inl k] = some x ∧ x = (σ, some (.inr (.inl 0))) := by
    refine pR_met (post := fun x => x = (σ, some (.inr (.inl 0)))) rfl (Nat.le_of_ble_eq_true rfl) ?_
    show pR _ _ _ _ _ _ _ _ 0 [(0, .inr (.inr 0)), (1, .inl k)] [] σ
    refine pr_iload_n tX7_at_0 1 rfl ?_
    refine pr_callS tX7_at_1 rfl ⟨Nat.le_of_ble_eq_true rfl, Nat.le_of_ble_eq_true rfl, rfl⟩ (ev_X7_isLeaf_out σ hk) ?_
    refine pR_eq (st' := [.inl 0]) rfl rfl ?_
    refine pr_if_eq (pc' := 16) tX7_at_4 rfl (fun hc4 => ?_) (fun hc4 => ?_)
    · skip
      skip
      refine pr_lconst (v := 0) tX7_at_16 rfl ?_
      refine pr_lret tX7_at_17 rfl ?_
      rfl
    · skip
      exact absurd rfl hc4
  obtain ⟨x, h1, h2⟩ := key
  rw [h1, h2]

set_option maxRecDepth 100000 in
theorem ev_X7_bound_in (σ : pST) {j : Nat} (h1 : 1 ≤ j) (hj : j ≤ 100) : kX7_bound σ [.inr (.inr 0), .inl (nI j)] = some (((pm_ui σ.1 0 4 (nI j), σ.2), some (.inl 1))) := by
  have key : ∃ x, kX7_bound σ [.inr (.inr 0), .inl (nI j)] = some x ∧ x = ((pm_ui σ.1 0 4 (nI j), σ.2), some (.inl 1)) := by
    refine pR_met (post := fun x => x = ((pm_ui σ.1 0 4 (nI j), σ.2), some (.inl 1))) rfl (Nat.le_of_ble_eq_true rfl) ?_
    show pR _ _ _ _ _ _ _ _ 0 [(0, .inr (.inr 0)), (1, .inl (nI j))] [] σ
    refine pr_iload_n tX7_bound_0 1 rfl ?_
    refine pr_iconst (v := nI 1) tX7_bound_1 rfl ?_
    refine pr_ic_lt (pc' := 11) tX7_bound_2 rfl (fun hc2 => ?_) (fun hc2 => ?_)
    · skip
      exact absurd ((nI_ltI (by omega) (by omega)).mp hc2) (by omega)
    · skip
      have hc2 : ¬ j < 1 := fun z9 => hc2 ((nI_ltI (by omega) (by omega)).mpr z9)
      refine pr_iload_n tX7_bound_5 1 rfl ?_
      refine pr_bipush (v := nI 100) tX7_bound_6 rfl ?_
      refine pr_ic_le (pc' := 13) tX7_bound_8 rfl (fun hc8 => ?_) (fun hc8 => ?_)
      · skip
        have hc8 : j ≤ 100 := (nI_leI (by omega) (by omega)).mp hc8
        refine pr_aload_n tX7_bound_13 0 rfl ?_
        refine pr_iload_n tX7_bound_14 1 rfl ?_
        refine pr_put0 tX7_bound_15 rfl rfl rfl ?_
        obtain ⟨σ1, eσ1⟩ : ∃ z : pST, z = (pm_ui σ.1 0 4 (nI j), σ.2) := ⟨_, rfl⟩
        rw [← eσ1]
        refine pr_iconst (v := nI 1) tX7_bound_18 rfl ?_
        refine pr_zret tX7_bound_19 rfl (by decide) ?_
        rw [eσ1]
        rfl
      · skip
        exact absurd ((nI_leI (by omega) (by omega)).mpr hj) hc8
  obtain ⟨x, h1, h2⟩ := key
  rw [h1, h2]

set_option maxRecDepth 100000 in
theorem ev_X7_bound_out (σ : pST) {k : Int32} (hk : k < nI 1 ∨ nI 100 < k) : kX7_bound σ [.inr (.inr 0), .inl k] = some ((σ, some (.inl 0))) := by
  have key : ∃ x, kX7_bound σ [.inr (.inr 0), .inl k] = some x ∧ x = (σ, some (.inl 0)) := by
    refine pR_met (post := fun x => x = (σ, some (.inl 0))) rfl (Nat.le_of_ble_eq_true rfl) ?_
    show pR _ _ _ _ _ _ _ _ 0 [(0, .inr (.inr 0)), (1, .inl k)] [] σ
    refine pr_iload_n tX7_bound_0 1 rfl ?_
    refine pr_iconst (v := nI 1) tX7_bound_1 rfl ?_
    refine pr_ic_lt (pc' := 11) tX7_bound_2 rfl (fun hc2 => ?_) (fun hc2 => ?_)
    · skip
      refine pr_iconst (v := nI 0) tX7_bound_11 rfl ?_
      refine pr_zret tX7_bound_12 rfl (by decide) ?_
      rfl
    · skip
      refine pr_iload_n tX7_bound_5 1 rfl ?_
      refine pr_bipush (v := nI 100) tX7_bound_6 rfl ?_
      refine pr_ic_le (pc' := 13) tX7_bound_8 rfl (fun hc8 => ?_) (fun hc8 => ?_)
      · skip
        exact absurd hk (fun z => z.elim hc2 (fun z => Int32.not_le.mpr z hc8))
      · skip
        refine pr_iconst (v := nI 0) tX7_bound_11 rfl ?_
        refine pr_zret tX7_bound_12 rfl (by decide) ?_
        rfl
  obtain ⟨x, h1, h2⟩ := key
  rw [h1, h2]

set_option maxRecDepth 100000 in
theorem ev_X7_call (σ : pST) {c : Nat} (hc : c ≤ 16) (h : σ.1 2 0 = nI c) {x : pRT} {r : Int32} {τ : pST} (hx : (if c < 16 then ((pm_ui (pm_ui σ.1 3 c 0) 2 0 (nI (c + 1)), σ.2), some (.inl (nI c))) else (σ, some (.inl (-1))) : pRT) = (τ, some (.inl r))) : kX7_call σ [.inr (.inr 0)] = some ((τ, some (.inl r))) := by
  have key : ∃ x, kX7_call σ [.inr (.inr 0)] = some x ∧ x = (τ, some (.inl r)) := by
    refine pR_met (post := fun x => x = (τ, some (.inl r))) rfl (Nat.le_of_ble_eq_true rfl) ?_
    show pR _ _ _ _ _ _ _ _ 0 [(0, .inr (.inr 0))] [] σ
    refine pr_aload_n tX7_call_0 0 rfl ?_
    refine pr_geta (j := 2) tX7_call_1 rfl rfl rfl rfl ?_
    refine pr_callV tX7_call_4 rfl ⟨Nat.le_of_ble_eq_true rfl, Nat.le_of_ble_eq_true rfl, rfl⟩ ((ev_X2_addCall σ hc h).trans (congrArg some hx)) ?_
    refine pR_eq (st' := [.inl r]) rfl rfl ?_
    refine pr_iret tX7_call_7 rfl ?_
    rfl
  obtain ⟨x, h1, h2⟩ := key
  rw [h1, h2]

set_option maxRecDepth 100000 in
theorem ev_X7_clear (σ : pST) : kX7_clear σ [.inr (.inr 0)] = some (((pm_ui σ.1 2 0 0, σ.2), some (.inl (σ.1 2 0)))) := by
  have key : ∃ x, kX7_clear σ [.inr (.inr 0)] = some x ∧ x = ((pm_ui σ.1 2 0 0, σ.2), some (.inl (σ.1 2 0))) := by
    refine pR_met (post := fun x => x = ((pm_ui σ.1 2 0 0, σ.2), some (.inl (σ.1 2 0)))) rfl (Nat.le_of_ble_eq_true rfl) ?_
    show pR _ _ _ _ _ _ _ _ 0 [(0, .inr (.inr 0))] [] σ
    refine pr_aload_n tX7_clear_0 0 rfl ?_
    refine pr_geta (j := 2) tX7_clear_1 rfl rfl rfl rfl ?_
    refine pr_callV tX7_clear_4 rfl ⟨Nat.le_of_ble_eq_true rfl, Nat.le_of_ble_eq_true rfl, rfl⟩ (ev_X2_dropCalls σ) ?_
    refine pR_eq (st' := [.inl (σ.1 2 0)]) rfl rfl ?_
    refine pr_iret tX7_clear_7 rfl ?_
    rfl
  obtain ⟨x, h1, h2⟩ := key
  rw [h1, h2]
