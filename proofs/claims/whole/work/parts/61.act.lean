abbrev rkP (r : Int32) : Prop := ¬ r < 0 ∧ ¬ nI 4 ≤ r
abbrev hsP (k : Int32) : Prop := ¬ k < nI 1 ∧ ¬ nI 6 < k
abbrev avP (k : Int32) (v : Int64) : Prop := nI 2 < k → (if k = nI 6 then ¬ lg_cmp v 1 < 0 ∧ ¬ 0 < lg_cmp v 12 else lg_cmp v 0 = 0)
abbrev oaP (k r s : Int32) (v : Int64) : Prop := ¬ k < 0 ∧ ¬ nI 8 < k ∧ rkP r ∧ (if hsP k then rkP s else s = 0) ∧ avP k v

set_option maxRecDepth 100000 in
theorem ev_X4_isRegister (σ : pST) (r : Int32) : kX4_isRegister σ [.inl r] = some ((σ, some (.inl (if rkP r then 1 else 0)))) := by
  have key : ∃ x, kX4_isRegister σ [.inl r] = some x ∧ x = (σ, some (.inl (if rkP r then 1 else 0))) := by
    refine pR_metS (post := fun x => x = (σ, some (.inl (if rkP r then 1 else 0)))) (Nat.le_of_ble_eq_true rfl) ?_
    show pR _ _ _ _ _ _ _ _ 0 [(0, .inl r)] [] σ
    refine pr_iload_n tX4_isRegister_0 0 rfl ?_
    refine pr_if_lt (pc' := 13) tX4_isRegister_1 rfl (fun hc1 => ?_) (fun hc1 => ?_)
    · skip
      refine pr_iconst (v := nI 0) tX4_isRegister_13 rfl ?_
      refine pr_zret tX4_isRegister_14 rfl (by decide) ?_
      first | (rw [if_pos (by grind)]; rfl) | (rw [if_neg (by grind)]; rfl)
    · skip
      refine pr_iload_n tX4_isRegister_4 0 rfl ?_
      refine pr_iconst (v := nI 4) tX4_isRegister_5 rfl ?_
      refine pr_ic_ge (pc' := 13) tX4_isRegister_6 rfl (fun hc6 => ?_) (fun hc6 => ?_)
      · skip
        refine pr_iconst (v := nI 0) tX4_isRegister_13 rfl ?_
        refine pr_zret tX4_isRegister_14 rfl (by decide) ?_
        first | (rw [if_pos (by grind)]; rfl) | (rw [if_neg (by grind)]; rfl)
      · skip
        refine pr_iconst (v := nI 1) tX4_isRegister_9 rfl ?_
        refine pr_goto (pc' := 14) tX4_isRegister_10 rfl ?_
        refine pr_zret tX4_isRegister_14 rfl (by decide) ?_
        first | (rw [if_pos (by grind)]; rfl) | (rw [if_neg (by grind)]; rfl)
  obtain ⟨x, h1, h2⟩ := key
  rw [h1, h2]

set_option maxRecDepth 100000 in
theorem ev_X4_hasSecond (σ : pST) (k : Int32) : kX4_hasSecond σ [.inl k] = some ((σ, some (.inl (if hsP k then 1 else 0)))) := by
  have key : ∃ x, kX4_hasSecond σ [.inl k] = some x ∧ x = (σ, some (.inl (if hsP k then 1 else 0))) := by
    refine pR_metS (post := fun x => x = (σ, some (.inl (if hsP k then 1 else 0)))) (Nat.le_of_ble_eq_true rfl) ?_
    show pR _ _ _ _ _ _ _ _ 0 [(0, .inl k)] [] σ
    refine pr_iload_n tX4_hasSecond_0 0 rfl ?_
    refine pr_iconst (v := nI 1) tX4_hasSecond_1 rfl ?_
    refine pr_ic_lt (pc' := 15) tX4_hasSecond_2 rfl (fun hc2 => ?_) (fun hc2 => ?_)
    · skip
      refine pr_iconst (v := nI 0) tX4_hasSecond_15 rfl ?_
      refine pr_zret tX4_hasSecond_16 rfl (by decide) ?_
      first | (rw [if_pos (by grind)]; rfl) | (rw [if_neg (by grind)]; rfl)
    · skip
      refine pr_iload_n tX4_hasSecond_5 0 rfl ?_
      refine pr_bipush (v := nI 6) tX4_hasSecond_6 rfl ?_
      refine pr_ic_gt (pc' := 15) tX4_hasSecond_8 rfl (fun hc8 => ?_) (fun hc8 => ?_)
      · skip
        refine pr_iconst (v := nI 0) tX4_hasSecond_15 rfl ?_
        refine pr_zret tX4_hasSecond_16 rfl (by decide) ?_
        first | (rw [if_pos (by grind)]; rfl) | (rw [if_neg (by grind)]; rfl)
      · skip
        refine pr_iconst (v := nI 1) tX4_hasSecond_11 rfl ?_
        refine pr_goto (pc' := 16) tX4_hasSecond_12 rfl ?_
        refine pr_zret tX4_hasSecond_16 rfl (by decide) ?_
        first | (rw [if_pos (by grind)]; rfl) | (rw [if_neg (by grind)]; rfl)
  obtain ⟨x, h1, h2⟩ := key
  rw [h1, h2]

set_option maxRecDepth 100000 in
theorem ev_X4_allowsValue (σ : pST) (k : Int32) (v : Int64) : kX4_allowsValue σ [.inl k, .inr (.inl v)] = some ((σ, some (.inl (if avP k v then 1 else 0)))) := by
  have key : ∃ x, kX4_allowsValue σ [.inl k, .inr (.inl v)] = some x ∧ x = (σ, some (.inl (if avP k v then 1 else 0))) := by
    refine pR_metS (post := fun x => x = (σ, some (.inl (if avP k v then 1 else 0)))) (Nat.le_of_ble_eq_true rfl) ?_
    show pR _ _ _ _ _ _ _ _ 0 [(0, .inl k), (1, .inr (.inl v))] [] σ
    refine pr_iload_n tX4_allowsValue_0 0 rfl ?_
    refine pr_iconst (v := nI 2) tX4_allowsValue_1 rfl ?_
    refine pr_ic_gt (pc' := 7) tX4_allowsValue_2 rfl (fun hc2 => ?_) (fun hc2 => ?_)
    · skip
      refine pr_iload_n tX4_allowsValue_7 0 rfl ?_
      refine pr_bipush (v := nI 6) tX4_allowsValue_8 rfl ?_
      refine pr_ic_ne (pc' := 35) tX4_allowsValue_10 rfl (fun hc10 => ?_) (fun hc10 => ?_)
      · skip
        refine pr_lload_n tX4_allowsValue_35 1 rfl ?_
        refine pr_lconst (v := 0) tX4_allowsValue_36 rfl ?_
        refine pr_lcmp tX4_allowsValue_37 ?_
        refine pr_if_ne (pc' := 45) tX4_allowsValue_38 rfl (fun hc38 => ?_) (fun hc38 => ?_)
        · skip
          refine pr_iconst (v := nI 0) tX4_allowsValue_45 rfl ?_
          refine pr_zret tX4_allowsValue_46 rfl (by decide) ?_
          first | (rw [if_pos (by grind)]; rfl) | (rw [if_neg (by grind)]; rfl)
        · skip
          refine pr_iconst (v := nI 1) tX4_allowsValue_41 rfl ?_
          refine pr_goto (pc' := 46) tX4_allowsValue_42 rfl ?_
          refine pr_zret tX4_allowsValue_46 rfl (by decide) ?_
          first | (rw [if_pos (by grind)]; rfl) | (rw [if_neg (by grind)]; rfl)
      · skip
        refine pr_lload_n tX4_allowsValue_13 1 rfl ?_
        refine pr_lconst (v := 1) tX4_allowsValue_14 rfl ?_
        refine pr_lcmp tX4_allowsValue_15 ?_
        refine pr_if_lt (pc' := 31) tX4_allowsValue_16 rfl (fun hc16 => ?_) (fun hc16 => ?_)
        · skip
          refine pr_iconst (v := nI 0) tX4_allowsValue_31 rfl ?_
          refine pr_goto (pc' := 46) tX4_allowsValue_32 rfl ?_
          refine pr_zret tX4_allowsValue_46 rfl (by decide) ?_
          first | (rw [if_pos (by grind)]; rfl) | (rw [if_neg (by grind)]; rfl)
        · skip
          refine pr_lload_n tX4_allowsValue_19 1 rfl ?_
          refine pr_ldc2 tX4_allowsValue_20 rfl ?_
          refine pr_lcmp tX4_allowsValue_23 ?_
          refine pr_if_gt (pc' := 31) tX4_allowsValue_24 rfl (fun hc24 => ?_) (fun hc24 => ?_)
          · skip
            refine pr_iconst (v := nI 0) tX4_allowsValue_31 rfl ?_
            refine pr_goto (pc' := 46) tX4_allowsValue_32 rfl ?_
            refine pr_zret tX4_allowsValue_46 rfl (by decide) ?_
            first | (rw [if_pos (by grind)]; rfl) | (rw [if_neg (by grind)]; rfl)
          · skip
            refine pr_iconst (v := nI 1) tX4_allowsValue_27 rfl ?_
            refine pr_goto (pc' := 46) tX4_allowsValue_28 rfl ?_
            refine pr_zret tX4_allowsValue_46 rfl (by decide) ?_
            first | (rw [if_pos (by grind)]; rfl) | (rw [if_neg (by grind)]; rfl)
    · skip
      refine pr_iconst (v := nI 1) tX4_allowsValue_5 rfl ?_
      refine pr_zret tX4_allowsValue_6 rfl (by decide) ?_
      first | (rw [if_pos (by grind)]; rfl) | (rw [if_neg (by grind)]; rfl)
  obtain ⟨x, h1, h2⟩ := key
  rw [h1, h2]

set_option maxRecDepth 100000 in
theorem ev_X4_allows (σ : pST) (k r s : Int32) (v : Int64) : kX4_allows σ [.inl k, .inl r, .inl s, .inr (.inl v)] = some ((σ, some (.inl (if oaP k r s v then 1 else 0)))) := by
  have key : ∃ x, kX4_allows σ [.inl k, .inl r, .inl s, .inr (.inl v)] = some x ∧ x = (σ, some (.inl (if oaP k r s v then 1 else 0))) := by
    refine pR_metS (post := fun x => x = (σ, some (.inl (if oaP k r s v then 1 else 0)))) (Nat.le_of_ble_eq_true rfl) ?_
    show pR _ _ _ _ _ _ _ _ 0 [(0, .inl k), (1, .inl r), (2, .inl s), (3, .inr (.inl v))] [] σ
    refine pr_iload_n tX4_allows_0 0 rfl ?_
    refine pr_if_lt (pc' := 50) tX4_allows_1 rfl (fun hc1 => ?_) (fun hc1 => ?_)
    · skip
      refine pr_iconst (v := nI 0) tX4_allows_50 rfl ?_
      refine pr_zret tX4_allows_51 rfl (by decide) ?_
      first | (rw [if_pos (by grind)]; rfl) | (rw [if_neg (by grind)]; rfl)
    · skip
      refine pr_iload_n tX4_allows_4 0 rfl ?_
      refine pr_bipush (v := nI 8) tX4_allows_5 rfl ?_
      refine pr_ic_gt (pc' := 50) tX4_allows_7 rfl (fun hc7 => ?_) (fun hc7 => ?_)
      · skip
        refine pr_iconst (v := nI 0) tX4_allows_50 rfl ?_
        refine pr_zret tX4_allows_51 rfl (by decide) ?_
        first | (rw [if_pos (by grind)]; rfl) | (rw [if_neg (by grind)]; rfl)
      · skip
        refine pr_iload_n tX4_allows_10 1 rfl ?_
        refine pr_callS tX4_allows_11 rfl ⟨Nat.le_of_ble_eq_true rfl, Nat.le_of_ble_eq_true rfl, rfl⟩ (ev_X4_isRegister σ r) ?_
        refine pR_eq (st' := [.inl (if rkP r then 1 else 0)]) rfl rfl ?_
        refine pr_if_eq (pc' := 50) tX4_allows_14 rfl (fun hc14 => ?_) (fun hc14 => ?_)
        · skip
          refine pr_iconst (v := nI 0) tX4_allows_50 rfl ?_
          refine pr_zret tX4_allows_51 rfl (by decide) ?_
          first | (rw [if_pos (by grind)]; rfl) | (rw [if_neg (by grind)]; rfl)
        · skip
          refine pr_iload_n tX4_allows_17 0 rfl ?_
          refine pr_callS tX4_allows_18 rfl ⟨Nat.le_of_ble_eq_true rfl, Nat.le_of_ble_eq_true rfl, rfl⟩ (ev_X4_hasSecond σ k) ?_
          refine pR_eq (st' := [.inl (if hsP k then 1 else 0)]) rfl rfl ?_
          refine pr_if_eq (pc' := 34) tX4_allows_21 rfl (fun hc21 => ?_) (fun hc21 => ?_)
          · skip
            refine pr_iload_n tX4_allows_34 2 rfl ?_
            refine pr_if_ne (pc' := 50) tX4_allows_35 rfl (fun hc35 => ?_) (fun hc35 => ?_)
            · skip
              refine pr_iconst (v := nI 0) tX4_allows_50 rfl ?_
              refine pr_zret tX4_allows_51 rfl (by decide) ?_
              first | (rw [if_pos (by grind)]; rfl) | (rw [if_neg (by grind)]; rfl)
            · skip
              refine pr_iload_n tX4_allows_38 0 rfl ?_
              refine pr_lload_n tX4_allows_39 3 rfl ?_
              refine pr_callS tX4_allows_40 rfl ⟨Nat.le_of_ble_eq_true rfl, Nat.le_of_ble_eq_true rfl, rfl⟩ (ev_X4_allowsValue σ k v) ?_
              refine pR_eq (st' := [.inl (if avP k v then 1 else 0)]) rfl rfl ?_
              refine pr_if_eq (pc' := 50) tX4_allows_43 rfl (fun hc43 => ?_) (fun hc43 => ?_)
              · skip
                refine pr_iconst (v := nI 0) tX4_allows_50 rfl ?_
                refine pr_zret tX4_allows_51 rfl (by decide) ?_
                first | (rw [if_pos (by grind)]; rfl) | (rw [if_neg (by grind)]; rfl)
              · skip
                refine pr_iconst (v := nI 1) tX4_allows_46 rfl ?_
                refine pr_goto (pc' := 51) tX4_allows_47 rfl ?_
                refine pr_zret tX4_allows_51 rfl (by decide) ?_
                first | (rw [if_pos (by grind)]; rfl) | (rw [if_neg (by grind)]; rfl)
          · skip
            refine pr_iload_n tX4_allows_24 2 rfl ?_
            refine pr_callS tX4_allows_25 rfl ⟨Nat.le_of_ble_eq_true rfl, Nat.le_of_ble_eq_true rfl, rfl⟩ (ev_X4_isRegister σ s) ?_
            refine pR_eq (st' := [.inl (if rkP s then 1 else 0)]) rfl rfl ?_
            refine pr_if_eq (pc' := 50) tX4_allows_28 rfl (fun hc28 => ?_) (fun hc28 => ?_)
            · skip
              refine pr_iconst (v := nI 0) tX4_allows_50 rfl ?_
              refine pr_zret tX4_allows_51 rfl (by decide) ?_
              first | (rw [if_pos (by grind)]; rfl) | (rw [if_neg (by grind)]; rfl)
            · skip
              refine pr_goto (pc' := 38) tX4_allows_31 rfl ?_
              refine pr_iload_n tX4_allows_38 0 rfl ?_
              refine pr_lload_n tX4_allows_39 3 rfl ?_
              refine pr_callS tX4_allows_40 rfl ⟨Nat.le_of_ble_eq_true rfl, Nat.le_of_ble_eq_true rfl, rfl⟩ (ev_X4_allowsValue σ k v) ?_
              refine pR_eq (st' := [.inl (if avP k v then 1 else 0)]) rfl rfl ?_
              refine pr_if_eq (pc' := 50) tX4_allows_43 rfl (fun hc43 => ?_) (fun hc43 => ?_)
              · skip
                refine pr_iconst (v := nI 0) tX4_allows_50 rfl ?_
                refine pr_zret tX4_allows_51 rfl (by decide) ?_
                first | (rw [if_pos (by grind)]; rfl) | (rw [if_neg (by grind)]; rfl)
              · skip
                refine pr_iconst (v := nI 1) tX4_allows_46 rfl ?_
                refine pr_goto (pc' := 51) tX4_allows_47 rfl ?_
                refine pr_zret tX4_allows_51 rfl (by decide) ?_
                first | (rw [if_pos (by grind)]; rfl) | (rw [if_neg (by grind)]; rfl)
  obtain ⟨x, h1, h2⟩ := key
  rw [h1, h2]

set_option maxRecDepth 100000 in
theorem ev_X2_addAct_in (σ : pST) {n ci ac : Nat} (hn : n ≤ 16) (h : σ.1 2 0 = nI n) (hci : ci < n) (ha : σ.1 3 ci = nI ac) (hac : ac ≤ 12) (k r s : Int32) (v : Int64) : kX2_addAct σ [.inr (.inr 2), .inl (nI ci), .inl k, .inl r, .inl s, .inr (.inl v)] = some (if ac < 12 then ((pm_ui (pm_ui (pm_ui (pm_ui σ.1 4 (ci * 12 + ac) k) 5 (ci * 12 + ac) r) 6 (ci * 12 + ac) s) 3 ci (nI (ac + 1)), pm_uj σ.2 7 (ci * 12 + ac) v), some (.inl (nI (ac + 1)))) else (σ, some (.inl (-1)))) := by
  have key : ∃ x, kX2_addAct σ [.inr (.inr 2), .inl (nI ci), .inl k, .inl r, .inl s, .inr (.inl v)] = some x ∧ x = if ac < 12 then ((pm_ui (pm_ui (pm_ui (pm_ui σ.1 4 (ci * 12 + ac) k) 5 (ci * 12 + ac) r) 6 (ci * 12 + ac) s) 3 ci (nI (ac + 1)), pm_uj σ.2 7 (ci * 12 + ac) v), some (.inl (nI (ac + 1)))) else (σ, some (.inl (-1))) := by
    refine pR_met (post := fun x => x = if ac < 12 then ((pm_ui (pm_ui (pm_ui (pm_ui σ.1 4 (ci * 12 + ac) k) 5 (ci * 12 + ac) r) 6 (ci * 12 + ac) s) 3 ci (nI (ac + 1)), pm_uj σ.2 7 (ci * 12 + ac) v), some (.inl (nI (ac + 1)))) else (σ, some (.inl (-1)))) rfl (Nat.le_of_ble_eq_true rfl) ?_
    show pR _ _ _ _ _ _ _ _ 0 [(0, .inr (.inr 2)), (1, .inl (nI ci)), (2, .inl k), (3, .inl r), (4, .inl s), (5, .inr (.inl v))] [] σ
    refine pr_iload_n tX2_addAct_0 1 rfl ?_
    refine pr_if_lt (pc' := 23) tX2_addAct_1 rfl (fun hc1 => ?_) (fun hc1 => ?_)
    · skip
      exact absurd hc1 (nI_pos (by omega))
    · skip
      refine pr_iload_n tX2_addAct_4 1 rfl ?_
      refine pr_aload_n tX2_addAct_5 0 rfl ?_
      refine pr_get0 tX2_addAct_6 rfl rfl rfl ?_
      refine pR_topi (y := (nI n)) (by simp [pm_ui, pm_uj, upd, vp_updL, h]) ?_
      refine pr_ic_ge (pc' := 23) tX2_addAct_9 rfl (fun hc9 => ?_) (fun hc9 => ?_)
      · skip
        exact absurd ((nI_leI (by omega) (by omega)).mp hc9) (by omega)
      · skip
        have hc9 : ¬ n ≤ ci := fun z9 => hc9 ((nI_leI (by omega) (by omega)).mpr z9)
        refine pr_aload_n tX2_addAct_12 0 rfl ?_
        refine pr_geta (j := 3) tX2_addAct_13 rfl rfl rfl rfl ?_
        refine pr_iload_n tX2_addAct_16 1 rfl ?_
        refine pr_ial tX2_addAct_17 ci rfl rfl (by omega) (by decide) ?_
        refine pR_topi (y := (nI ac)) (by simp [pm_ui, pm_uj, upd, vp_updL, ha]) ?_
        refine pr_bipush (v := nI 12) tX2_addAct_18 rfl ?_
        refine pr_ic_lt (pc' := 25) tX2_addAct_20 rfl (fun hc20 => ?_) (fun hc20 => ?_)
        · skip
          have hc20 : ac < 12 := (nI_ltI (by omega) (by omega)).mp hc20
          refine pr_iload_n tX2_addAct_25 1 rfl ?_
          refine pr_bipush (v := nI 12) tX2_addAct_26 rfl ?_
          refine pr_imul (v := (nI (ci * 12))) tX2_addAct_28 (pk_mul _ _) ?_
          refine pr_aload_n tX2_addAct_29 0 rfl ?_
          refine pr_geta (j := 3) tX2_addAct_30 rfl rfl rfl rfl ?_
          refine pr_iload_n tX2_addAct_33 1 rfl ?_
          refine pr_ial tX2_addAct_34 ci rfl rfl (by omega) (by decide) ?_
          refine pR_topi (y := (nI ac)) (by simp [pm_ui, pm_uj, upd, vp_updL, ha]) ?_
          refine pr_iadd (v := (nI (ci * 12 + ac))) tX2_addAct_35 (nI_add _ _) ?_
          refine pr_istore (L' := [(7, .inl (nI (ci * 12 + ac))), (0, .inr (.inr 2)), (1, .inl (nI ci)), (2, .inl k), (3, .inl r), (4, .inl s), (5, .inr (.inl v))]) tX2_addAct_36 (by decide) rfl ?_
          refine pr_aload_n tX2_addAct_38 1 rfl ?_
          refine pr_geta (j := 4) tX2_addAct_39 rfl rfl rfl rfl ?_
          refine pr_iload tX2_addAct_42 0 rfl ?_
          refine pr_iload_n tX2_addAct_44 3 rfl ?_
          refine pr_ias tX2_addAct_45 (ci * 12 + ac) rfl rfl (by omega) (by decide) ?_
          obtain ⟨σ1, eσ1⟩ : ∃ z : pST, z = (pm_ui σ.1 4 (ci * 12 + ac) k, σ.2) := ⟨_, rfl⟩
          rw [← eσ1]
          refine pr_aload_n tX2_addAct_46 1 rfl ?_
          refine pr_geta (j := 5) tX2_addAct_47 rfl rfl rfl rfl ?_
          refine pr_iload tX2_addAct_50 0 rfl ?_
          refine pr_iload_n tX2_addAct_52 4 rfl ?_
          refine pr_ias tX2_addAct_53 (ci * 12 + ac) rfl rfl (by omega) (by decide) ?_
          obtain ⟨σ2, eσ2⟩ : ∃ z : pST, z = (pm_ui σ1.1 5 (ci * 12 + ac) r, σ1.2) := ⟨_, rfl⟩
          rw [← eσ2]
          refine pr_aload_n tX2_addAct_54 1 rfl ?_
          refine pr_geta (j := 6) tX2_addAct_55 rfl rfl rfl rfl ?_
          refine pr_iload tX2_addAct_58 0 rfl ?_
          refine pr_iload tX2_addAct_60 5 rfl ?_
          refine pr_ias tX2_addAct_62 (ci * 12 + ac) rfl rfl (by omega) (by decide) ?_
          obtain ⟨σ3, eσ3⟩ : ∃ z : pST, z = (pm_ui σ2.1 6 (ci * 12 + ac) s, σ2.2) := ⟨_, rfl⟩
          rw [← eσ3]
          refine pr_aload_n tX2_addAct_63 1 rfl ?_
          refine pr_geta (j := 7) tX2_addAct_64 rfl rfl rfl rfl ?_
          refine pr_iload tX2_addAct_67 0 rfl ?_
          refine pr_lload tX2_addAct_69 6 rfl ?_
          refine pr_las tX2_addAct_71 (ci * 12 + ac) rfl rfl (by omega) (by decide) ?_
          obtain ⟨σ4, eσ4⟩ : ∃ z : pST, z = (σ3.1, pm_uj σ3.2 7 (ci * 12 + ac) v) := ⟨_, rfl⟩
          rw [← eσ4]
          refine pr_aload_n tX2_addAct_72 1 rfl ?_
          refine pr_geta (j := 3) tX2_addAct_73 rfl rfl rfl rfl ?_
          refine pr_iload_n tX2_addAct_76 2 rfl ?_
          refine pr_dup2 tX2_addAct_77 ⟨rfl, rfl⟩ ?_
          refine pr_ial tX2_addAct_78 ci rfl rfl (by omega) (by decide) ?_
          refine pR_topi (y := (nI ac)) (by simp [eσ1, eσ2, eσ3, eσ4, pm_ui, pm_uj, upd, vp_updL, ha]) ?_
          refine pr_iconst (v := nI 1) tX2_addAct_79 rfl ?_
          refine pr_iadd (v := (nI (ac + 1))) tX2_addAct_80 (nI_add _ _) ?_
          refine pr_ias tX2_addAct_81 ci rfl rfl (by omega) (by decide) ?_
          obtain ⟨σ5, eσ5⟩ : ∃ z : pST, z = (pm_ui σ4.1 3 ci (nI (ac + 1)), σ4.2) := ⟨_, rfl⟩
          rw [← eσ5]
          refine pr_aload_n tX2_addAct_82 1 rfl ?_
          refine pr_geta (j := 3) tX2_addAct_83 rfl rfl rfl rfl ?_
          refine pr_iload_n tX2_addAct_86 2 rfl ?_
          refine pr_ial tX2_addAct_87 ci rfl rfl (by omega) (by decide) ?_
          refine pR_topi (y := (nI (ac + 1))) (by simp [eσ1, eσ2, eσ3, eσ4, eσ5, pm_ui, pm_uj, upd, vp_updL]) ?_
          refine pr_iret tX2_addAct_88 rfl ?_
          rw [if_pos (by omega), eσ5, eσ4, eσ3, eσ2, eσ1]
        · skip
          have hc20 : ¬ ac < 12 := fun z9 => hc20 ((nI_ltI (by omega) (by omega)).mpr z9)
          refine pr_iconst (v := -1) tX2_addAct_23 rfl ?_
          refine pr_iret tX2_addAct_24 rfl ?_
          rw [if_neg (by omega)]
  obtain ⟨x, h1, h2⟩ := key
  rw [h1, h2]

set_option maxRecDepth 100000 in
theorem ev_X2_addAct_out (σ : pST) {n : Nat} (h : σ.1 2 0 = nI n) {c : Int32} (hk : c < 0 ∨ nI n ≤ c) (k r s : Int32) (v : Int64) : kX2_addAct σ [.inr (.inr 2), .inl c, .inl k, .inl r, .inl s, .inr (.inl v)] = some ((σ, some (.inl (-1)))) := by
  have key : ∃ x, kX2_addAct σ [.inr (.inr 2), .inl c, .inl k, .inl r, .inl s, .inr (.inl v)] = some x ∧ x = (σ, some (.inl (-1))) := by
    refine pR_met (post := fun x => x = (σ, some (.inl (-1)))) rfl (Nat.le_of_ble_eq_true rfl) ?_
    show pR _ _ _ _ _ _ _ _ 0 [(0, .inr (.inr 2)), (1, .inl c), (2, .inl k), (3, .inl r), (4, .inl s), (5, .inr (.inl v))] [] σ
    refine pr_iload_n tX2_addAct_0 1 rfl ?_
    refine pr_if_lt (pc' := 23) tX2_addAct_1 rfl (fun hc1 => ?_) (fun hc1 => ?_)
    · skip
      refine pr_iconst (v := -1) tX2_addAct_23 rfl ?_
      refine pr_iret tX2_addAct_24 rfl ?_
      rfl
    · skip
      refine pr_iload_n tX2_addAct_4 1 rfl ?_
      refine pr_aload_n tX2_addAct_5 0 rfl ?_
      refine pr_get0 tX2_addAct_6 rfl rfl rfl ?_
      refine pR_topi (y := (nI n)) (by simp [pm_ui, pm_uj, upd, vp_updL, h]) ?_
      refine pr_ic_ge (pc' := 23) tX2_addAct_9 rfl (fun hc9 => ?_) (fun hc9 => ?_)
      · skip
        refine pr_iconst (v := -1) tX2_addAct_23 rfl ?_
        refine pr_iret tX2_addAct_24 rfl ?_
        rfl
      · skip
        exact absurd hk (fun z => z.elim hc1 hc9)
  obtain ⟨x, h1, h2⟩ := key
  rw [h1, h2]

set_option maxRecDepth 100000 in
theorem ev_X7_act_no (σ : pST) (c k r s : Int32) (v : Int64) (hno : ¬ oaP k r s v) : kX7_act σ [.inr (.inr 0), .inl c, .inl k, .inl r, .inl s, .inr (.inl v)] = some ((σ, some (.inl (-1)))) := by
  have key : ∃ x, kX7_act σ [.inr (.inr 0), .inl c, .inl k, .inl r, .inl s, .inr (.inl v)] = some x ∧ x = (σ, some (.inl (-1))) := by
    refine pR_met (post := fun x => x = (σ, some (.inl (-1)))) rfl (Nat.le_of_ble_eq_true rfl) ?_
    show pR _ _ _ _ _ _ _ _ 0 [(0, .inr (.inr 0)), (1, .inl c), (2, .inl k), (3, .inl r), (4, .inl s), (5, .inr (.inl v))] [] σ
    refine pr_iload_n tX7_act_0 2 rfl ?_
    refine pr_iload_n tX7_act_1 3 rfl ?_
    refine pr_iload tX7_act_2 4 rfl ?_
    refine pr_lload tX7_act_4 5 rfl ?_
    refine pr_callS tX7_act_6 rfl ⟨Nat.le_of_ble_eq_true rfl, Nat.le_of_ble_eq_true rfl, rfl⟩ (ev_X4_allows σ k r s v) ?_
    refine pR_eq (st' := [.inl (if oaP k r s v then 1 else 0)]) rfl rfl ?_
    refine pr_if_ne (pc' := 14) tX7_act_9 rfl (fun hc9 => ?_) (fun hc9 => ?_)
    · skip
      exact absurd (if_neg hno) hc9
    · skip
      refine pr_iconst (v := -1) tX7_act_12 rfl ?_
      refine pr_iret tX7_act_13 rfl ?_
      rfl
  obtain ⟨x, h1, h2⟩ := key
  rw [h1, h2]

set_option maxRecDepth 100000 in
theorem ev_X7_act_ok (σ : pST) (c k r s : Int32) (v : Int64) (hok : oaP k r s v) {σ' : pST} {z : Int32} (hadd : kX2_addAct σ [.inr (.inr 2), .inl c, .inl k, .inl r, .inl s, .inr (.inl v)] = some (σ', some (.inl z))) : kX7_act σ [.inr (.inr 0), .inl c, .inl k, .inl r, .inl s, .inr (.inl v)] = some ((σ', some (.inl z))) := by
  have key : ∃ x, kX7_act σ [.inr (.inr 0), .inl c, .inl k, .inl r, .inl s, .inr (.inl v)] = some x ∧ x = (σ', some (.inl z)) := by
    refine pR_met (post := fun x => x = (σ', some (.inl z))) rfl (Nat.le_of_ble_eq_true rfl) ?_
    show pR _ _ _ _ _ _ _ _ 0 [(0, .inr (.inr 0)), (1, .inl c), (2, .inl k), (3, .inl r), (4, .inl s), (5, .inr (.inl v))] [] σ
    refine pr_iload_n tX7_act_0 2 rfl ?_
    refine pr_iload_n tX7_act_1 3 rfl ?_
    refine pr_iload tX7_act_2 4 rfl ?_
    refine pr_lload tX7_act_4 5 rfl ?_
    refine pr_callS tX7_act_6 rfl ⟨Nat.le_of_ble_eq_true rfl, Nat.le_of_ble_eq_true rfl, rfl⟩ (ev_X4_allows σ k r s v) ?_
    refine pR_eq (st' := [.inl (if oaP k r s v then 1 else 0)]) rfl rfl ?_
    refine pr_if_ne (pc' := 14) tX7_act_9 rfl (fun hc9 => ?_) (fun hc9 => ?_)
    · skip
      skip
      refine pr_aload_n tX7_act_14 0 rfl ?_
      refine pr_geta (j := 2) tX7_act_15 rfl rfl rfl rfl ?_
      refine pr_iload_n tX7_act_18 1 rfl ?_
      refine pr_iload_n tX7_act_19 2 rfl ?_
      refine pr_iload_n tX7_act_20 3 rfl ?_
      refine pr_iload tX7_act_21 4 rfl ?_
      refine pr_lload tX7_act_23 5 rfl ?_
      refine pr_callV tX7_act_25 rfl ⟨Nat.le_of_ble_eq_true rfl, Nat.le_of_ble_eq_true rfl, rfl⟩ (hadd) ?_
      refine pR_eq (st' := [.inl z]) rfl rfl ?_
      refine pr_iret tX7_act_28 rfl ?_
      rfl
    · skip
      exact absurd (by rw [if_pos hok]; decide) hc9
  obtain ⟨x, h1, h2⟩ := key
  rw [h1, h2]

abbrev omP (k r s : Int32) (v : Int64) : Prop := ¬ k < 0 ∧ ¬ nI 8 < k ∧ (¬ r < 0 ∧ ¬ nI 3 < r) ∧ (if hsP k then (¬ s < 0 ∧ ¬ nI 3 < s) else s = 0) ∧ (k ≤ nI 2 ∨ (if k = nI 6 then ¬ lg_cmp v 1 < 0 ∧ ¬ 0 < lg_cmp v 12 else lg_cmp v 0 = 0))

set_option maxRecDepth 100000 in
theorem ev_X8_act_in (σ : pST) {n ci ac : Nat} (hn : n ≤ 16) (h : σ.1 0 1 = nI n) (hci : ci < n) (ha : σ.1 2 ci = nI ac) (hac : ac ≤ 12) (k r s : Int32) (v : Int64) : kX8_act σ [.inr (.inr 0), .inl (nI ci), .inl k, .inl r, .inl s, .inr (.inl v)] = some (if ac < 12 ∧ omP k r s v then ((pm_ui (pm_ui (pm_ui (pm_ui σ.1 3 (12 * ci + ac) k) 4 (12 * ci + ac) r) 5 (12 * ci + ac) s) 2 ci (nI (ac + 1)), pm_uj σ.2 6 (12 * ci + ac) v), some (.inl (nI (ac + 1)))) else (σ, some (.inl (-1)))) := by
  have key : ∃ x, kX8_act σ [.inr (.inr 0), .inl (nI ci), .inl k, .inl r, .inl s, .inr (.inl v)] = some x ∧ x = if ac < 12 ∧ omP k r s v then ((pm_ui (pm_ui (pm_ui (pm_ui σ.1 3 (12 * ci + ac) k) 4 (12 * ci + ac) r) 5 (12 * ci + ac) s) 2 ci (nI (ac + 1)), pm_uj σ.2 6 (12 * ci + ac) v), some (.inl (nI (ac + 1)))) else (σ, some (.inl (-1))) := by
    refine pR_met (post := fun x => x = if ac < 12 ∧ omP k r s v then ((pm_ui (pm_ui (pm_ui (pm_ui σ.1 3 (12 * ci + ac) k) 4 (12 * ci + ac) r) 5 (12 * ci + ac) s) 2 ci (nI (ac + 1)), pm_uj σ.2 6 (12 * ci + ac) v), some (.inl (nI (ac + 1)))) else (σ, some (.inl (-1)))) rfl (Nat.le_of_ble_eq_true rfl) ?_
    show pR _ _ _ _ _ _ _ _ 0 [(0, .inr (.inr 0)), (1, .inl (nI ci)), (2, .inl k), (3, .inl r), (4, .inl s), (5, .inr (.inl v))] [] σ
    refine pr_iload_n tX8_act_0 1 rfl ?_
    refine pr_if_lt (pc' := 37) tX8_act_1 rfl (fun hc1 => ?_) (fun hc1 => ?_)
    · skip
      exact absurd hc1 (nI_pos (by omega))
    · skip
      refine pr_iload_n tX8_act_4 1 rfl ?_
      refine pr_aload_n tX8_act_5 0 rfl ?_
      refine pr_get0 tX8_act_6 rfl rfl rfl ?_
      refine pR_topi (y := (nI n)) (by simp [pm_ui, pm_uj, upd, vp_updL, h]) ?_
      refine pr_ic_ge (pc' := 37) tX8_act_9 rfl (fun hc9 => ?_) (fun hc9 => ?_)
      · skip
        exact absurd ((nI_leI (by omega) (by omega)).mp hc9) (by omega)
      · skip
        have hc9 : ¬ n ≤ ci := fun z9 => hc9 ((nI_leI (by omega) (by omega)).mpr z9)
        refine pr_iload_n tX8_act_12 2 rfl ?_
        refine pr_if_lt (pc' := 37) tX8_act_13 rfl (fun hc13 => ?_) (fun hc13 => ?_)
        · skip
          refine pr_iconst (v := nI 0) tX8_act_37 rfl ?_
          refine pr_istore (L' := [(7, .inl (nI 0)), (0, .inr (.inr 0)), (1, .inl (nI ci)), (2, .inl k), (3, .inl r), (4, .inl s), (5, .inr (.inl v))]) tX8_act_38 (by decide) rfl ?_
          refine pr_iload_n tX8_act_40 3 rfl ?_
          refine pr_iconst (v := nI 1) tX8_act_41 rfl ?_
          refine pr_ic_lt (pc' := 55) tX8_act_42 rfl (fun hc42 => ?_) (fun hc42 => ?_)
          · skip
            refine pr_iconst (v := nI 0) tX8_act_55 rfl ?_
            refine pr_istore (L' := [(8, .inl (nI 0)), (7, .inl (nI 0)), (0, .inr (.inr 0)), (1, .inl (nI ci)), (2, .inl k), (3, .inl r), (4, .inl s), (5, .inr (.inl v))]) tX8_act_56 (by decide) rfl ?_
            refine pr_iload tX8_act_58 1 rfl ?_
            refine pr_if_eq (pc' := 100) tX8_act_60 rfl (fun hc60 => ?_) (fun hc60 => ?_)
            · skip
              refine pr_iconst (v := nI 0) tX8_act_100 rfl ?_
              refine pr_istore (L' := [(7, .inl (nI 0)), (8, .inl (nI 0)), (0, .inr (.inr 0)), (1, .inl (nI ci)), (2, .inl k), (3, .inl r), (4, .inl s), (5, .inr (.inl v))]) tX8_act_101 (by decide) rfl ?_
              refine pr_iload tX8_act_103 0 rfl ?_
              refine pr_if_eq (pc' := 149) tX8_act_105 rfl (fun hc105 => ?_) (fun hc105 => ?_)
              · skip
                refine pr_iconst (v := nI 0) tX8_act_149 rfl ?_
                refine pr_istore (L' := [(7, .inl (nI 0)), (8, .inl (nI 0)), (0, .inr (.inr 0)), (1, .inl (nI ci)), (2, .inl k), (3, .inl r), (4, .inl s), (5, .inr (.inl v))]) tX8_act_150 (by decide) rfl ?_
                refine pr_iload tX8_act_152 0 rfl ?_
                refine pr_if_ne (pc' := 159) tX8_act_154 rfl (fun hc154 => ?_) (fun hc154 => ?_)
                · skip
                  exact absurd hc154 (by decide)
                · skip
                  refine pr_iconst (v := -1) tX8_act_157 rfl ?_
                  refine pr_iret tX8_act_158 rfl ?_
                  rw [if_neg (by grind)]
              · skip
                exact absurd (by decide) hc105
            · skip
              exact absurd (by decide) hc60
          · skip
            refine pr_iload_n tX8_act_45 3 rfl ?_
            refine pr_bipush (v := nI 6) tX8_act_46 rfl ?_
            refine pr_ic_gt (pc' := 55) tX8_act_48 rfl (fun hc48 => ?_) (fun hc48 => ?_)
            · skip
              refine pr_iconst (v := nI 0) tX8_act_55 rfl ?_
              refine pr_istore (L' := [(8, .inl (nI 0)), (7, .inl (nI 0)), (0, .inr (.inr 0)), (1, .inl (nI ci)), (2, .inl k), (3, .inl r), (4, .inl s), (5, .inr (.inl v))]) tX8_act_56 (by decide) rfl ?_
              refine pr_iload tX8_act_58 1 rfl ?_
              refine pr_if_eq (pc' := 100) tX8_act_60 rfl (fun hc60 => ?_) (fun hc60 => ?_)
              · skip
                refine pr_iconst (v := nI 0) tX8_act_100 rfl ?_
                refine pr_istore (L' := [(7, .inl (nI 0)), (8, .inl (nI 0)), (0, .inr (.inr 0)), (1, .inl (nI ci)), (2, .inl k), (3, .inl r), (4, .inl s), (5, .inr (.inl v))]) tX8_act_101 (by decide) rfl ?_
                refine pr_iload tX8_act_103 0 rfl ?_
                refine pr_if_eq (pc' := 149) tX8_act_105 rfl (fun hc105 => ?_) (fun hc105 => ?_)
                · skip
                  refine pr_iconst (v := nI 0) tX8_act_149 rfl ?_
                  refine pr_istore (L' := [(7, .inl (nI 0)), (8, .inl (nI 0)), (0, .inr (.inr 0)), (1, .inl (nI ci)), (2, .inl k), (3, .inl r), (4, .inl s), (5, .inr (.inl v))]) tX8_act_150 (by decide) rfl ?_
                  refine pr_iload tX8_act_152 0 rfl ?_
                  refine pr_if_ne (pc' := 159) tX8_act_154 rfl (fun hc154 => ?_) (fun hc154 => ?_)
                  · skip
                    exact absurd hc154 (by decide)
                  · skip
                    refine pr_iconst (v := -1) tX8_act_157 rfl ?_
                    refine pr_iret tX8_act_158 rfl ?_
                    rw [if_neg (by grind)]
                · skip
                  exact absurd (by decide) hc105
              · skip
                exact absurd (by decide) hc60
            · skip
              refine pr_iconst (v := nI 1) tX8_act_51 rfl ?_
              refine pr_goto (pc' := 56) tX8_act_52 rfl ?_
              refine pr_istore (L' := [(8, .inl (nI 1)), (7, .inl (nI 0)), (0, .inr (.inr 0)), (1, .inl (nI ci)), (2, .inl k), (3, .inl r), (4, .inl s), (5, .inr (.inl v))]) tX8_act_56 (by decide) rfl ?_
              refine pr_iload tX8_act_58 1 rfl ?_
              refine pr_if_eq (pc' := 100) tX8_act_60 rfl (fun hc60 => ?_) (fun hc60 => ?_)
              · skip
                refine pr_iconst (v := nI 0) tX8_act_100 rfl ?_
                refine pr_istore (L' := [(7, .inl (nI 0)), (8, .inl (nI 1)), (0, .inr (.inr 0)), (1, .inl (nI ci)), (2, .inl k), (3, .inl r), (4, .inl s), (5, .inr (.inl v))]) tX8_act_101 (by decide) rfl ?_
                refine pr_iload tX8_act_103 0 rfl ?_
                refine pr_if_eq (pc' := 149) tX8_act_105 rfl (fun hc105 => ?_) (fun hc105 => ?_)
                · skip
                  refine pr_iconst (v := nI 0) tX8_act_149 rfl ?_
                  refine pr_istore (L' := [(7, .inl (nI 0)), (8, .inl (nI 1)), (0, .inr (.inr 0)), (1, .inl (nI ci)), (2, .inl k), (3, .inl r), (4, .inl s), (5, .inr (.inl v))]) tX8_act_150 (by decide) rfl ?_
                  refine pr_iload tX8_act_152 0 rfl ?_
                  refine pr_if_ne (pc' := 159) tX8_act_154 rfl (fun hc154 => ?_) (fun hc154 => ?_)
                  · skip
                    exact absurd hc154 (by decide)
                  · skip
                    refine pr_iconst (v := -1) tX8_act_157 rfl ?_
                    refine pr_iret tX8_act_158 rfl ?_
                    rw [if_neg (by grind)]
                · skip
                  exact absurd (by decide) hc105
              · skip
                exact absurd (by decide) hc60
        · skip
          refine pr_iload_n tX8_act_16 2 rfl ?_
          refine pr_bipush (v := nI 8) tX8_act_17 rfl ?_
          refine pr_ic_gt (pc' := 37) tX8_act_19 rfl (fun hc19 => ?_) (fun hc19 => ?_)
          · skip
            refine pr_iconst (v := nI 0) tX8_act_37 rfl ?_
            refine pr_istore (L' := [(7, .inl (nI 0)), (0, .inr (.inr 0)), (1, .inl (nI ci)), (2, .inl k), (3, .inl r), (4, .inl s), (5, .inr (.inl v))]) tX8_act_38 (by decide) rfl ?_
            refine pr_iload_n tX8_act_40 3 rfl ?_
            refine pr_iconst (v := nI 1) tX8_act_41 rfl ?_
            refine pr_ic_lt (pc' := 55) tX8_act_42 rfl (fun hc42 => ?_) (fun hc42 => ?_)
            · skip
              refine pr_iconst (v := nI 0) tX8_act_55 rfl ?_
              refine pr_istore (L' := [(8, .inl (nI 0)), (7, .inl (nI 0)), (0, .inr (.inr 0)), (1, .inl (nI ci)), (2, .inl k), (3, .inl r), (4, .inl s), (5, .inr (.inl v))]) tX8_act_56 (by decide) rfl ?_
              refine pr_iload tX8_act_58 1 rfl ?_
              refine pr_if_eq (pc' := 100) tX8_act_60 rfl (fun hc60 => ?_) (fun hc60 => ?_)
              · skip
                refine pr_iconst (v := nI 0) tX8_act_100 rfl ?_
                refine pr_istore (L' := [(7, .inl (nI 0)), (8, .inl (nI 0)), (0, .inr (.inr 0)), (1, .inl (nI ci)), (2, .inl k), (3, .inl r), (4, .inl s), (5, .inr (.inl v))]) tX8_act_101 (by decide) rfl ?_
                refine pr_iload tX8_act_103 0 rfl ?_
                refine pr_if_eq (pc' := 149) tX8_act_105 rfl (fun hc105 => ?_) (fun hc105 => ?_)
                · skip
                  refine pr_iconst (v := nI 0) tX8_act_149 rfl ?_
                  refine pr_istore (L' := [(7, .inl (nI 0)), (8, .inl (nI 0)), (0, .inr (.inr 0)), (1, .inl (nI ci)), (2, .inl k), (3, .inl r), (4, .inl s), (5, .inr (.inl v))]) tX8_act_150 (by decide) rfl ?_
                  refine pr_iload tX8_act_152 0 rfl ?_
                  refine pr_if_ne (pc' := 159) tX8_act_154 rfl (fun hc154 => ?_) (fun hc154 => ?_)
                  · skip
                    exact absurd hc154 (by decide)
                  · skip
                    refine pr_iconst (v := -1) tX8_act_157 rfl ?_
                    refine pr_iret tX8_act_158 rfl ?_
                    rw [if_neg (by grind)]
                · skip
                  exact absurd (by decide) hc105
              · skip
                exact absurd (by decide) hc60
            · skip
              refine pr_iload_n tX8_act_45 3 rfl ?_
              refine pr_bipush (v := nI 6) tX8_act_46 rfl ?_
              refine pr_ic_gt (pc' := 55) tX8_act_48 rfl (fun hc48 => ?_) (fun hc48 => ?_)
              · skip
                refine pr_iconst (v := nI 0) tX8_act_55 rfl ?_
                refine pr_istore (L' := [(8, .inl (nI 0)), (7, .inl (nI 0)), (0, .inr (.inr 0)), (1, .inl (nI ci)), (2, .inl k), (3, .inl r), (4, .inl s), (5, .inr (.inl v))]) tX8_act_56 (by decide) rfl ?_
                refine pr_iload tX8_act_58 1 rfl ?_
                refine pr_if_eq (pc' := 100) tX8_act_60 rfl (fun hc60 => ?_) (fun hc60 => ?_)
                · skip
                  refine pr_iconst (v := nI 0) tX8_act_100 rfl ?_
                  refine pr_istore (L' := [(7, .inl (nI 0)), (8, .inl (nI 0)), (0, .inr (.inr 0)), (1, .inl (nI ci)), (2, .inl k), (3, .inl r), (4, .inl s), (5, .inr (.inl v))]) tX8_act_101 (by decide) rfl ?_
                  refine pr_iload tX8_act_103 0 rfl ?_
                  refine pr_if_eq (pc' := 149) tX8_act_105 rfl (fun hc105 => ?_) (fun hc105 => ?_)
                  · skip
                    refine pr_iconst (v := nI 0) tX8_act_149 rfl ?_
                    refine pr_istore (L' := [(7, .inl (nI 0)), (8, .inl (nI 0)), (0, .inr (.inr 0)), (1, .inl (nI ci)), (2, .inl k), (3, .inl r), (4, .inl s), (5, .inr (.inl v))]) tX8_act_150 (by decide) rfl ?_
                    refine pr_iload tX8_act_152 0 rfl ?_
                    refine pr_if_ne (pc' := 159) tX8_act_154 rfl (fun hc154 => ?_) (fun hc154 => ?_)
                    · skip
                      exact absurd hc154 (by decide)
                    · skip
                      refine pr_iconst (v := -1) tX8_act_157 rfl ?_
                      refine pr_iret tX8_act_158 rfl ?_
                      rw [if_neg (by grind)]
                  · skip
                    exact absurd (by decide) hc105
                · skip
                  exact absurd (by decide) hc60
              · skip
                refine pr_iconst (v := nI 1) tX8_act_51 rfl ?_
                refine pr_goto (pc' := 56) tX8_act_52 rfl ?_
                refine pr_istore (L' := [(8, .inl (nI 1)), (7, .inl (nI 0)), (0, .inr (.inr 0)), (1, .inl (nI ci)), (2, .inl k), (3, .inl r), (4, .inl s), (5, .inr (.inl v))]) tX8_act_56 (by decide) rfl ?_
                refine pr_iload tX8_act_58 1 rfl ?_
                refine pr_if_eq (pc' := 100) tX8_act_60 rfl (fun hc60 => ?_) (fun hc60 => ?_)
                · skip
                  refine pr_iconst (v := nI 0) tX8_act_100 rfl ?_
                  refine pr_istore (L' := [(7, .inl (nI 0)), (8, .inl (nI 1)), (0, .inr (.inr 0)), (1, .inl (nI ci)), (2, .inl k), (3, .inl r), (4, .inl s), (5, .inr (.inl v))]) tX8_act_101 (by decide) rfl ?_
                  refine pr_iload tX8_act_103 0 rfl ?_
                  refine pr_if_eq (pc' := 149) tX8_act_105 rfl (fun hc105 => ?_) (fun hc105 => ?_)
                  · skip
                    refine pr_iconst (v := nI 0) tX8_act_149 rfl ?_
                    refine pr_istore (L' := [(7, .inl (nI 0)), (8, .inl (nI 1)), (0, .inr (.inr 0)), (1, .inl (nI ci)), (2, .inl k), (3, .inl r), (4, .inl s), (5, .inr (.inl v))]) tX8_act_150 (by decide) rfl ?_
                    refine pr_iload tX8_act_152 0 rfl ?_
                    refine pr_if_ne (pc' := 159) tX8_act_154 rfl (fun hc154 => ?_) (fun hc154 => ?_)
                    · skip
                      exact absurd hc154 (by decide)
                    · skip
                      refine pr_iconst (v := -1) tX8_act_157 rfl ?_
                      refine pr_iret tX8_act_158 rfl ?_
                      rw [if_neg (by grind)]
                  · skip
                    exact absurd (by decide) hc105
                · skip
                  exact absurd (by decide) hc60
          · skip
            refine pr_aload_n tX8_act_22 0 rfl ?_
            refine pr_geta (j := 2) tX8_act_23 rfl rfl rfl rfl ?_
            refine pr_iload_n tX8_act_26 1 rfl ?_
            refine pr_ial tX8_act_27 ci rfl rfl (by omega) (by decide) ?_
            refine pR_topi (y := (nI ac)) (by simp [pm_ui, pm_uj, upd, vp_updL, ha]) ?_
            refine pr_bipush (v := nI 12) tX8_act_28 rfl ?_
            refine pr_ic_ge (pc' := 37) tX8_act_30 rfl (fun hc30 => ?_) (fun hc30 => ?_)
            · skip
              have hc30 : 12 ≤ ac := (nI_leI (by omega) (by omega)).mp hc30
              refine pr_iconst (v := nI 0) tX8_act_37 rfl ?_
              refine pr_istore (L' := [(7, .inl (nI 0)), (0, .inr (.inr 0)), (1, .inl (nI ci)), (2, .inl k), (3, .inl r), (4, .inl s), (5, .inr (.inl v))]) tX8_act_38 (by decide) rfl ?_
              refine pr_iload_n tX8_act_40 3 rfl ?_
              refine pr_iconst (v := nI 1) tX8_act_41 rfl ?_
              refine pr_ic_lt (pc' := 55) tX8_act_42 rfl (fun hc42 => ?_) (fun hc42 => ?_)
              · skip
                refine pr_iconst (v := nI 0) tX8_act_55 rfl ?_
                refine pr_istore (L' := [(8, .inl (nI 0)), (7, .inl (nI 0)), (0, .inr (.inr 0)), (1, .inl (nI ci)), (2, .inl k), (3, .inl r), (4, .inl s), (5, .inr (.inl v))]) tX8_act_56 (by decide) rfl ?_
                refine pr_iload tX8_act_58 1 rfl ?_
                refine pr_if_eq (pc' := 100) tX8_act_60 rfl (fun hc60 => ?_) (fun hc60 => ?_)
                · skip
                  refine pr_iconst (v := nI 0) tX8_act_100 rfl ?_
                  refine pr_istore (L' := [(7, .inl (nI 0)), (8, .inl (nI 0)), (0, .inr (.inr 0)), (1, .inl (nI ci)), (2, .inl k), (3, .inl r), (4, .inl s), (5, .inr (.inl v))]) tX8_act_101 (by decide) rfl ?_
                  refine pr_iload tX8_act_103 0 rfl ?_
                  refine pr_if_eq (pc' := 149) tX8_act_105 rfl (fun hc105 => ?_) (fun hc105 => ?_)
                  · skip
                    refine pr_iconst (v := nI 0) tX8_act_149 rfl ?_
                    refine pr_istore (L' := [(7, .inl (nI 0)), (8, .inl (nI 0)), (0, .inr (.inr 0)), (1, .inl (nI ci)), (2, .inl k), (3, .inl r), (4, .inl s), (5, .inr (.inl v))]) tX8_act_150 (by decide) rfl ?_
                    refine pr_iload tX8_act_152 0 rfl ?_
                    refine pr_if_ne (pc' := 159) tX8_act_154 rfl (fun hc154 => ?_) (fun hc154 => ?_)
                    · skip
                      exact absurd hc154 (by decide)
                    · skip
                      refine pr_iconst (v := -1) tX8_act_157 rfl ?_
                      refine pr_iret tX8_act_158 rfl ?_
                      rw [if_neg (by grind)]
                  · skip
                    exact absurd (by decide) hc105
                · skip
                  exact absurd (by decide) hc60
              · skip
                refine pr_iload_n tX8_act_45 3 rfl ?_
                refine pr_bipush (v := nI 6) tX8_act_46 rfl ?_
                refine pr_ic_gt (pc' := 55) tX8_act_48 rfl (fun hc48 => ?_) (fun hc48 => ?_)
                · skip
                  refine pr_iconst (v := nI 0) tX8_act_55 rfl ?_
                  refine pr_istore (L' := [(8, .inl (nI 0)), (7, .inl (nI 0)), (0, .inr (.inr 0)), (1, .inl (nI ci)), (2, .inl k), (3, .inl r), (4, .inl s), (5, .inr (.inl v))]) tX8_act_56 (by decide) rfl ?_
                  refine pr_iload tX8_act_58 1 rfl ?_
                  refine pr_if_eq (pc' := 100) tX8_act_60 rfl (fun hc60 => ?_) (fun hc60 => ?_)
                  · skip
                    refine pr_iconst (v := nI 0) tX8_act_100 rfl ?_
                    refine pr_istore (L' := [(7, .inl (nI 0)), (8, .inl (nI 0)), (0, .inr (.inr 0)), (1, .inl (nI ci)), (2, .inl k), (3, .inl r), (4, .inl s), (5, .inr (.inl v))]) tX8_act_101 (by decide) rfl ?_
                    refine pr_iload tX8_act_103 0 rfl ?_
                    refine pr_if_eq (pc' := 149) tX8_act_105 rfl (fun hc105 => ?_) (fun hc105 => ?_)
                    · skip
                      refine pr_iconst (v := nI 0) tX8_act_149 rfl ?_
                      refine pr_istore (L' := [(7, .inl (nI 0)), (8, .inl (nI 0)), (0, .inr (.inr 0)), (1, .inl (nI ci)), (2, .inl k), (3, .inl r), (4, .inl s), (5, .inr (.inl v))]) tX8_act_150 (by decide) rfl ?_
                      refine pr_iload tX8_act_152 0 rfl ?_
                      refine pr_if_ne (pc' := 159) tX8_act_154 rfl (fun hc154 => ?_) (fun hc154 => ?_)
                      · skip
                        exact absurd hc154 (by decide)
                      · skip
                        refine pr_iconst (v := -1) tX8_act_157 rfl ?_
                        refine pr_iret tX8_act_158 rfl ?_
                        rw [if_neg (by grind)]
                    · skip
                      exact absurd (by decide) hc105
                  · skip
                    exact absurd (by decide) hc60
                · skip
                  refine pr_iconst (v := nI 1) tX8_act_51 rfl ?_
                  refine pr_goto (pc' := 56) tX8_act_52 rfl ?_
                  refine pr_istore (L' := [(8, .inl (nI 1)), (7, .inl (nI 0)), (0, .inr (.inr 0)), (1, .inl (nI ci)), (2, .inl k), (3, .inl r), (4, .inl s), (5, .inr (.inl v))]) tX8_act_56 (by decide) rfl ?_
                  refine pr_iload tX8_act_58 1 rfl ?_
                  refine pr_if_eq (pc' := 100) tX8_act_60 rfl (fun hc60 => ?_) (fun hc60 => ?_)
                  · skip
                    refine pr_iconst (v := nI 0) tX8_act_100 rfl ?_
                    refine pr_istore (L' := [(7, .inl (nI 0)), (8, .inl (nI 1)), (0, .inr (.inr 0)), (1, .inl (nI ci)), (2, .inl k), (3, .inl r), (4, .inl s), (5, .inr (.inl v))]) tX8_act_101 (by decide) rfl ?_
                    refine pr_iload tX8_act_103 0 rfl ?_
                    refine pr_if_eq (pc' := 149) tX8_act_105 rfl (fun hc105 => ?_) (fun hc105 => ?_)
                    · skip
                      refine pr_iconst (v := nI 0) tX8_act_149 rfl ?_
                      refine pr_istore (L' := [(7, .inl (nI 0)), (8, .inl (nI 1)), (0, .inr (.inr 0)), (1, .inl (nI ci)), (2, .inl k), (3, .inl r), (4, .inl s), (5, .inr (.inl v))]) tX8_act_150 (by decide) rfl ?_
                      refine pr_iload tX8_act_152 0 rfl ?_
                      refine pr_if_ne (pc' := 159) tX8_act_154 rfl (fun hc154 => ?_) (fun hc154 => ?_)
                      · skip
                        exact absurd hc154 (by decide)
                      · skip
                        refine pr_iconst (v := -1) tX8_act_157 rfl ?_
                        refine pr_iret tX8_act_158 rfl ?_
                        rw [if_neg (by grind)]
                    · skip
                      exact absurd (by decide) hc105
                  · skip
                    exact absurd (by decide) hc60
            · skip
              have hc30 : ¬ 12 ≤ ac := fun z9 => hc30 ((nI_leI (by omega) (by omega)).mpr z9)
              refine pr_iconst (v := nI 1) tX8_act_33 rfl ?_
              refine pr_goto (pc' := 38) tX8_act_34 rfl ?_
              refine pr_istore (L' := [(7, .inl (nI 1)), (0, .inr (.inr 0)), (1, .inl (nI ci)), (2, .inl k), (3, .inl r), (4, .inl s), (5, .inr (.inl v))]) tX8_act_38 (by decide) rfl ?_
              refine pr_iload_n tX8_act_40 3 rfl ?_
              refine pr_iconst (v := nI 1) tX8_act_41 rfl ?_
              refine pr_ic_lt (pc' := 55) tX8_act_42 rfl (fun hc42 => ?_) (fun hc42 => ?_)
              · skip
                refine pr_iconst (v := nI 0) tX8_act_55 rfl ?_
                refine pr_istore (L' := [(8, .inl (nI 0)), (7, .inl (nI 1)), (0, .inr (.inr 0)), (1, .inl (nI ci)), (2, .inl k), (3, .inl r), (4, .inl s), (5, .inr (.inl v))]) tX8_act_56 (by decide) rfl ?_
                refine pr_iload tX8_act_58 1 rfl ?_
                refine pr_if_eq (pc' := 100) tX8_act_60 rfl (fun hc60 => ?_) (fun hc60 => ?_)
                · skip
                  exact absurd hc60 (by decide)
                · skip
                  refine pr_iload_n tX8_act_63 5 rfl ?_
                  refine pr_if_lt (pc' := 100) tX8_act_64 rfl (fun hc64 => ?_) (fun hc64 => ?_)
                  · skip
                    refine pr_iconst (v := nI 0) tX8_act_100 rfl ?_
                    refine pr_istore (L' := [(7, .inl (nI 0)), (8, .inl (nI 0)), (0, .inr (.inr 0)), (1, .inl (nI ci)), (2, .inl k), (3, .inl r), (4, .inl s), (5, .inr (.inl v))]) tX8_act_101 (by decide) rfl ?_
                    refine pr_iload tX8_act_103 0 rfl ?_
                    refine pr_if_eq (pc' := 149) tX8_act_105 rfl (fun hc105 => ?_) (fun hc105 => ?_)
                    · skip
                      refine pr_iconst (v := nI 0) tX8_act_149 rfl ?_
                      refine pr_istore (L' := [(7, .inl (nI 0)), (8, .inl (nI 0)), (0, .inr (.inr 0)), (1, .inl (nI ci)), (2, .inl k), (3, .inl r), (4, .inl s), (5, .inr (.inl v))]) tX8_act_150 (by decide) rfl ?_
                      refine pr_iload tX8_act_152 0 rfl ?_
                      refine pr_if_ne (pc' := 159) tX8_act_154 rfl (fun hc154 => ?_) (fun hc154 => ?_)
                      · skip
                        exact absurd hc154 (by decide)
                      · skip
                        refine pr_iconst (v := -1) tX8_act_157 rfl ?_
                        refine pr_iret tX8_act_158 rfl ?_
                        rw [if_neg (by grind)]
                    · skip
                      exact absurd (by decide) hc105
                  · skip
                    refine pr_iload_n tX8_act_67 5 rfl ?_
                    refine pr_iconst (v := nI 3) tX8_act_68 rfl ?_
                    refine pr_ic_gt (pc' := 100) tX8_act_69 rfl (fun hc69 => ?_) (fun hc69 => ?_)
                    · skip
                      refine pr_iconst (v := nI 0) tX8_act_100 rfl ?_
                      refine pr_istore (L' := [(7, .inl (nI 0)), (8, .inl (nI 0)), (0, .inr (.inr 0)), (1, .inl (nI ci)), (2, .inl k), (3, .inl r), (4, .inl s), (5, .inr (.inl v))]) tX8_act_101 (by decide) rfl ?_
                      refine pr_iload tX8_act_103 0 rfl ?_
                      refine pr_if_eq (pc' := 149) tX8_act_105 rfl (fun hc105 => ?_) (fun hc105 => ?_)
                      · skip
                        refine pr_iconst (v := nI 0) tX8_act_149 rfl ?_
                        refine pr_istore (L' := [(7, .inl (nI 0)), (8, .inl (nI 0)), (0, .inr (.inr 0)), (1, .inl (nI ci)), (2, .inl k), (3, .inl r), (4, .inl s), (5, .inr (.inl v))]) tX8_act_150 (by decide) rfl ?_
                        refine pr_iload tX8_act_152 0 rfl ?_
                        refine pr_if_ne (pc' := 159) tX8_act_154 rfl (fun hc154 => ?_) (fun hc154 => ?_)
                        · skip
                          exact absurd hc154 (by decide)
                        · skip
                          refine pr_iconst (v := -1) tX8_act_157 rfl ?_
                          refine pr_iret tX8_act_158 rfl ?_
                          rw [if_neg (by grind)]
                      · skip
                        exact absurd (by decide) hc105
                    · skip
                      refine pr_iload tX8_act_72 0 rfl ?_
                      refine pr_if_eq (pc' := 91) tX8_act_74 rfl (fun hc74 => ?_) (fun hc74 => ?_)
                      · skip
                        refine pr_iload tX8_act_91 6 rfl ?_
                        refine pr_if_ne (pc' := 100) tX8_act_93 rfl (fun hc93 => ?_) (fun hc93 => ?_)
                        · skip
                          refine pr_iconst (v := nI 0) tX8_act_100 rfl ?_
                          refine pr_istore (L' := [(7, .inl (nI 0)), (8, .inl (nI 0)), (0, .inr (.inr 0)), (1, .inl (nI ci)), (2, .inl k), (3, .inl r), (4, .inl s), (5, .inr (.inl v))]) tX8_act_101 (by decide) rfl ?_
                          refine pr_iload tX8_act_103 0 rfl ?_
                          refine pr_if_eq (pc' := 149) tX8_act_105 rfl (fun hc105 => ?_) (fun hc105 => ?_)
                          · skip
                            refine pr_iconst (v := nI 0) tX8_act_149 rfl ?_
                            refine pr_istore (L' := [(7, .inl (nI 0)), (8, .inl (nI 0)), (0, .inr (.inr 0)), (1, .inl (nI ci)), (2, .inl k), (3, .inl r), (4, .inl s), (5, .inr (.inl v))]) tX8_act_150 (by decide) rfl ?_
                            refine pr_iload tX8_act_152 0 rfl ?_
                            refine pr_if_ne (pc' := 159) tX8_act_154 rfl (fun hc154 => ?_) (fun hc154 => ?_)
                            · skip
                              exact absurd hc154 (by decide)
                            · skip
                              refine pr_iconst (v := -1) tX8_act_157 rfl ?_
                              refine pr_iret tX8_act_158 rfl ?_
                              rw [if_neg (by grind)]
                          · skip
                            exact absurd (by decide) hc105
                        · skip
                          refine pr_iconst (v := nI 1) tX8_act_96 rfl ?_
                          refine pr_goto (pc' := 101) tX8_act_97 rfl ?_
                          refine pr_istore (L' := [(7, .inl (nI 1)), (8, .inl (nI 0)), (0, .inr (.inr 0)), (1, .inl (nI ci)), (2, .inl k), (3, .inl r), (4, .inl s), (5, .inr (.inl v))]) tX8_act_101 (by decide) rfl ?_
                          refine pr_iload tX8_act_103 0 rfl ?_
                          refine pr_if_eq (pc' := 149) tX8_act_105 rfl (fun hc105 => ?_) (fun hc105 => ?_)
                          · skip
                            exact absurd hc105 (by decide)
                          · skip
                            refine pr_iload_n tX8_act_108 4 rfl ?_
                            refine pr_iconst (v := nI 2) tX8_act_109 rfl ?_
                            refine pr_ic_le (pc' := 145) tX8_act_110 rfl (fun hc110 => ?_) (fun hc110 => ?_)
                            · skip
                              refine pr_iconst (v := nI 1) tX8_act_145 rfl ?_
                              refine pr_goto (pc' := 150) tX8_act_146 rfl ?_
                              refine pr_istore (L' := [(7, .inl (nI 1)), (8, .inl (nI 0)), (0, .inr (.inr 0)), (1, .inl (nI ci)), (2, .inl k), (3, .inl r), (4, .inl s), (5, .inr (.inl v))]) tX8_act_150 (by decide) rfl ?_
                              refine pr_iload tX8_act_152 0 rfl ?_
                              refine pr_if_ne (pc' := 159) tX8_act_154 rfl (fun hc154 => ?_) (fun hc154 => ?_)
                              · skip
                                refine pr_bipush (v := nI 12) tX8_act_159 rfl ?_
                                refine pr_iload_n tX8_act_161 3 rfl ?_
                                refine pr_imul (v := (nI (12 * ci))) tX8_act_162 (pk_mul _ _) ?_
                                refine pr_aload_n tX8_act_163 2 rfl ?_
                                refine pr_geta (j := 2) tX8_act_164 rfl rfl rfl rfl ?_
                                refine pr_iload_n tX8_act_167 3 rfl ?_
                                refine pr_ial tX8_act_168 ci rfl rfl (by omega) (by decide) ?_
                                refine pR_topi (y := (nI ac)) (by simp [pm_ui, pm_uj, upd, vp_updL, ha]) ?_
                                refine pr_iadd (v := (nI (12 * ci + ac))) tX8_act_169 (nI_add _ _) ?_
                                refine pr_istore (L' := [(9, .inl (nI (12 * ci + ac))), (7, .inl (nI 1)), (8, .inl (nI 0)), (0, .inr (.inr 0)), (1, .inl (nI ci)), (2, .inl k), (3, .inl r), (4, .inl s), (5, .inr (.inl v))]) tX8_act_170 (by decide) rfl ?_
                                refine pr_aload_n tX8_act_172 3 rfl ?_
                                refine pr_geta (j := 3) tX8_act_173 rfl rfl rfl rfl ?_
                                refine pr_iload tX8_act_176 0 rfl ?_
                                refine pr_iload_n tX8_act_178 5 rfl ?_
                                refine pr_ias tX8_act_179 (12 * ci + ac) rfl rfl (by omega) (by decide) ?_
                                obtain ⟨σ1, eσ1⟩ : ∃ z : pST, z = (pm_ui σ.1 3 (12 * ci + ac) k, σ.2) := ⟨_, rfl⟩
                                rw [← eσ1]
                                refine pr_aload_n tX8_act_180 3 rfl ?_
                                refine pr_geta (j := 4) tX8_act_181 rfl rfl rfl rfl ?_
                                refine pr_iload tX8_act_184 0 rfl ?_
                                refine pr_iload_n tX8_act_186 6 rfl ?_
                                refine pr_ias tX8_act_187 (12 * ci + ac) rfl rfl (by omega) (by decide) ?_
                                obtain ⟨σ2, eσ2⟩ : ∃ z : pST, z = (pm_ui σ1.1 4 (12 * ci + ac) r, σ1.2) := ⟨_, rfl⟩
                                rw [← eσ2]
                                refine pr_aload_n tX8_act_188 3 rfl ?_
                                refine pr_geta (j := 5) tX8_act_189 rfl rfl rfl rfl ?_
                                refine pr_iload tX8_act_192 0 rfl ?_
                                refine pr_iload tX8_act_194 7 rfl ?_
                                refine pr_ias tX8_act_196 (12 * ci + ac) rfl rfl (by omega) (by decide) ?_
                                obtain ⟨σ3, eσ3⟩ : ∃ z : pST, z = (pm_ui σ2.1 5 (12 * ci + ac) s, σ2.2) := ⟨_, rfl⟩
                                rw [← eσ3]
                                refine pr_aload_n tX8_act_197 3 rfl ?_
                                refine pr_geta (j := 6) tX8_act_198 rfl rfl rfl rfl ?_
                                refine pr_iload tX8_act_201 0 rfl ?_
                                refine pr_lload tX8_act_203 8 rfl ?_
                                refine pr_las tX8_act_205 (12 * ci + ac) rfl rfl (by omega) (by decide) ?_
                                obtain ⟨σ4, eσ4⟩ : ∃ z : pST, z = (σ3.1, pm_uj σ3.2 6 (12 * ci + ac) v) := ⟨_, rfl⟩
                                rw [← eσ4]
                                refine pr_aload_n tX8_act_206 3 rfl ?_
                                refine pr_geta (j := 2) tX8_act_207 rfl rfl rfl rfl ?_
                                refine pr_iload_n tX8_act_210 4 rfl ?_
                                refine pr_dup2 tX8_act_211 ⟨rfl, rfl⟩ ?_
                                refine pr_ial tX8_act_212 ci rfl rfl (by omega) (by decide) ?_
                                refine pR_topi (y := (nI ac)) (by simp [eσ1, eσ2, eσ3, eσ4, pm_ui, pm_uj, upd, vp_updL, ha]) ?_
                                refine pr_iconst (v := nI 1) tX8_act_213 rfl ?_
                                refine pr_iadd (v := (nI (ac + 1))) tX8_act_214 (nI_add _ _) ?_
                                refine pr_ias tX8_act_215 ci rfl rfl (by omega) (by decide) ?_
                                obtain ⟨σ5, eσ5⟩ : ∃ z : pST, z = (pm_ui σ4.1 2 ci (nI (ac + 1)), σ4.2) := ⟨_, rfl⟩
                                rw [← eσ5]
                                refine pr_aload_n tX8_act_216 3 rfl ?_
                                refine pr_geta (j := 2) tX8_act_217 rfl rfl rfl rfl ?_
                                refine pr_iload_n tX8_act_220 4 rfl ?_
                                refine pr_ial tX8_act_221 ci rfl rfl (by omega) (by decide) ?_
                                refine pR_topi (y := (nI (ac + 1))) (by simp [eσ1, eσ2, eσ3, eσ4, eσ5, pm_ui, pm_uj, upd, vp_updL]) ?_
                                refine pr_iret tX8_act_222 rfl ?_
                                rw [if_pos (by grind), eσ5, eσ4, eσ3, eσ2, eσ1]
                              · skip
                                exact absurd (by decide) hc154
                            · skip
                              refine pr_iload_n tX8_act_113 4 rfl ?_
                              refine pr_bipush (v := nI 6) tX8_act_114 rfl ?_
                              refine pr_ic_ne (pc' := 138) tX8_act_116 rfl (fun hc116 => ?_) (fun hc116 => ?_)
                              · skip
                                refine pr_lload tX8_act_138 7 rfl ?_
                                refine pr_lconst (v := 0) tX8_act_140 rfl ?_
                                refine pr_lcmp tX8_act_141 ?_
                                refine pr_if_ne (pc' := 149) tX8_act_142 rfl (fun hc142 => ?_) (fun hc142 => ?_)
                                · skip
                                  refine pr_iconst (v := nI 0) tX8_act_149 rfl ?_
                                  refine pr_istore (L' := [(7, .inl (nI 0)), (8, .inl (nI 0)), (0, .inr (.inr 0)), (1, .inl (nI ci)), (2, .inl k), (3, .inl r), (4, .inl s), (5, .inr (.inl v))]) tX8_act_150 (by decide) rfl ?_
                                  refine pr_iload tX8_act_152 0 rfl ?_
                                  refine pr_if_ne (pc' := 159) tX8_act_154 rfl (fun hc154 => ?_) (fun hc154 => ?_)
                                  · skip
                                    exact absurd hc154 (by decide)
                                  · skip
                                    refine pr_iconst (v := -1) tX8_act_157 rfl ?_
                                    refine pr_iret tX8_act_158 rfl ?_
                                    rw [if_neg (by grind)]
                                · skip
                                  refine pr_iconst (v := nI 1) tX8_act_145 rfl ?_
                                  refine pr_goto (pc' := 150) tX8_act_146 rfl ?_
                                  refine pr_istore (L' := [(7, .inl (nI 1)), (8, .inl (nI 0)), (0, .inr (.inr 0)), (1, .inl (nI ci)), (2, .inl k), (3, .inl r), (4, .inl s), (5, .inr (.inl v))]) tX8_act_150 (by decide) rfl ?_
                                  refine pr_iload tX8_act_152 0 rfl ?_
                                  refine pr_if_ne (pc' := 159) tX8_act_154 rfl (fun hc154 => ?_) (fun hc154 => ?_)
                                  · skip
                                    refine pr_bipush (v := nI 12) tX8_act_159 rfl ?_
                                    refine pr_iload_n tX8_act_161 3 rfl ?_
                                    refine pr_imul (v := (nI (12 * ci))) tX8_act_162 (pk_mul _ _) ?_
                                    refine pr_aload_n tX8_act_163 2 rfl ?_
                                    refine pr_geta (j := 2) tX8_act_164 rfl rfl rfl rfl ?_
                                    refine pr_iload_n tX8_act_167 3 rfl ?_
                                    refine pr_ial tX8_act_168 ci rfl rfl (by omega) (by decide) ?_
                                    refine pR_topi (y := (nI ac)) (by simp [pm_ui, pm_uj, upd, vp_updL, ha]) ?_
                                    refine pr_iadd (v := (nI (12 * ci + ac))) tX8_act_169 (nI_add _ _) ?_
                                    refine pr_istore (L' := [(9, .inl (nI (12 * ci + ac))), (7, .inl (nI 1)), (8, .inl (nI 0)), (0, .inr (.inr 0)), (1, .inl (nI ci)), (2, .inl k), (3, .inl r), (4, .inl s), (5, .inr (.inl v))]) tX8_act_170 (by decide) rfl ?_
                                    refine pr_aload_n tX8_act_172 3 rfl ?_
                                    refine pr_geta (j := 3) tX8_act_173 rfl rfl rfl rfl ?_
                                    refine pr_iload tX8_act_176 0 rfl ?_
                                    refine pr_iload_n tX8_act_178 5 rfl ?_
                                    refine pr_ias tX8_act_179 (12 * ci + ac) rfl rfl (by omega) (by decide) ?_
                                    obtain ⟨σ6, eσ6⟩ : ∃ z : pST, z = (pm_ui σ.1 3 (12 * ci + ac) k, σ.2) := ⟨_, rfl⟩
                                    rw [← eσ6]
                                    refine pr_aload_n tX8_act_180 3 rfl ?_
                                    refine pr_geta (j := 4) tX8_act_181 rfl rfl rfl rfl ?_
                                    refine pr_iload tX8_act_184 0 rfl ?_
                                    refine pr_iload_n tX8_act_186 6 rfl ?_
                                    refine pr_ias tX8_act_187 (12 * ci + ac) rfl rfl (by omega) (by decide) ?_
                                    obtain ⟨σ7, eσ7⟩ : ∃ z : pST, z = (pm_ui σ6.1 4 (12 * ci + ac) r, σ6.2) := ⟨_, rfl⟩
                                    rw [← eσ7]
                                    refine pr_aload_n tX8_act_188 3 rfl ?_
                                    refine pr_geta (j := 5) tX8_act_189 rfl rfl rfl rfl ?_
                                    refine pr_iload tX8_act_192 0 rfl ?_
                                    refine pr_iload tX8_act_194 7 rfl ?_
                                    refine pr_ias tX8_act_196 (12 * ci + ac) rfl rfl (by omega) (by decide) ?_
                                    obtain ⟨σ8, eσ8⟩ : ∃ z : pST, z = (pm_ui σ7.1 5 (12 * ci + ac) s, σ7.2) := ⟨_, rfl⟩
                                    rw [← eσ8]
                                    refine pr_aload_n tX8_act_197 3 rfl ?_
                                    refine pr_geta (j := 6) tX8_act_198 rfl rfl rfl rfl ?_
                                    refine pr_iload tX8_act_201 0 rfl ?_
                                    refine pr_lload tX8_act_203 8 rfl ?_
                                    refine pr_las tX8_act_205 (12 * ci + ac) rfl rfl (by omega) (by decide) ?_
                                    obtain ⟨σ9, eσ9⟩ : ∃ z : pST, z = (σ8.1, pm_uj σ8.2 6 (12 * ci + ac) v) := ⟨_, rfl⟩
                                    rw [← eσ9]
                                    refine pr_aload_n tX8_act_206 3 rfl ?_
                                    refine pr_geta (j := 2) tX8_act_207 rfl rfl rfl rfl ?_
                                    refine pr_iload_n tX8_act_210 4 rfl ?_
                                    refine pr_dup2 tX8_act_211 ⟨rfl, rfl⟩ ?_
                                    refine pr_ial tX8_act_212 ci rfl rfl (by omega) (by decide) ?_
                                    refine pR_topi (y := (nI ac)) (by simp [eσ6, eσ7, eσ8, eσ9, pm_ui, pm_uj, upd, vp_updL, ha]) ?_
                                    refine pr_iconst (v := nI 1) tX8_act_213 rfl ?_
                                    refine pr_iadd (v := (nI (ac + 1))) tX8_act_214 (nI_add _ _) ?_
                                    refine pr_ias tX8_act_215 ci rfl rfl (by omega) (by decide) ?_
                                    obtain ⟨σ10, eσ10⟩ : ∃ z : pST, z = (pm_ui σ9.1 2 ci (nI (ac + 1)), σ9.2) := ⟨_, rfl⟩
                                    rw [← eσ10]
                                    refine pr_aload_n tX8_act_216 3 rfl ?_
                                    refine pr_geta (j := 2) tX8_act_217 rfl rfl rfl rfl ?_
                                    refine pr_iload_n tX8_act_220 4 rfl ?_
                                    refine pr_ial tX8_act_221 ci rfl rfl (by omega) (by decide) ?_
                                    refine pR_topi (y := (nI (ac + 1))) (by simp [eσ6, eσ7, eσ8, eσ9, eσ10, pm_ui, pm_uj, upd, vp_updL]) ?_
                                    refine pr_iret tX8_act_222 rfl ?_
                                    rw [if_pos (by grind), eσ10, eσ9, eσ8, eσ7, eσ6]
                                  · skip
                                    exact absurd (by decide) hc154
                              · skip
                                refine pr_lload tX8_act_119 7 rfl ?_
                                refine pr_lconst (v := 1) tX8_act_121 rfl ?_
                                refine pr_lcmp tX8_act_122 ?_
                                refine pr_if_lt (pc' := 149) tX8_act_123 rfl (fun hc123 => ?_) (fun hc123 => ?_)
                                · skip
                                  refine pr_iconst (v := nI 0) tX8_act_149 rfl ?_
                                  refine pr_istore (L' := [(7, .inl (nI 0)), (8, .inl (nI 0)), (0, .inr (.inr 0)), (1, .inl (nI ci)), (2, .inl k), (3, .inl r), (4, .inl s), (5, .inr (.inl v))]) tX8_act_150 (by decide) rfl ?_
                                  refine pr_iload tX8_act_152 0 rfl ?_
                                  refine pr_if_ne (pc' := 159) tX8_act_154 rfl (fun hc154 => ?_) (fun hc154 => ?_)
                                  · skip
                                    exact absurd hc154 (by decide)
                                  · skip
                                    refine pr_iconst (v := -1) tX8_act_157 rfl ?_
                                    refine pr_iret tX8_act_158 rfl ?_
                                    rw [if_neg (by grind)]
                                · skip
                                  refine pr_lload tX8_act_126 7 rfl ?_
                                  refine pr_ldc2 tX8_act_128 rfl ?_
                                  refine pr_lcmp tX8_act_131 ?_
                                  refine pr_if_gt (pc' := 149) tX8_act_132 rfl (fun hc132 => ?_) (fun hc132 => ?_)
                                  · skip
                                    refine pr_iconst (v := nI 0) tX8_act_149 rfl ?_
                                    refine pr_istore (L' := [(7, .inl (nI 0)), (8, .inl (nI 0)), (0, .inr (.inr 0)), (1, .inl (nI ci)), (2, .inl k), (3, .inl r), (4, .inl s), (5, .inr (.inl v))]) tX8_act_150 (by decide) rfl ?_
                                    refine pr_iload tX8_act_152 0 rfl ?_
                                    refine pr_if_ne (pc' := 159) tX8_act_154 rfl (fun hc154 => ?_) (fun hc154 => ?_)
                                    · skip
                                      exact absurd hc154 (by decide)
                                    · skip
                                      refine pr_iconst (v := -1) tX8_act_157 rfl ?_
                                      refine pr_iret tX8_act_158 rfl ?_
                                      rw [if_neg (by grind)]
                                  · skip
                                    refine pr_goto (pc' := 145) tX8_act_135 rfl ?_
                                    refine pr_iconst (v := nI 1) tX8_act_145 rfl ?_
                                    refine pr_goto (pc' := 150) tX8_act_146 rfl ?_
                                    refine pr_istore (L' := [(7, .inl (nI 1)), (8, .inl (nI 0)), (0, .inr (.inr 0)), (1, .inl (nI ci)), (2, .inl k), (3, .inl r), (4, .inl s), (5, .inr (.inl v))]) tX8_act_150 (by decide) rfl ?_
                                    refine pr_iload tX8_act_152 0 rfl ?_
                                    refine pr_if_ne (pc' := 159) tX8_act_154 rfl (fun hc154 => ?_) (fun hc154 => ?_)
                                    · skip
                                      refine pr_bipush (v := nI 12) tX8_act_159 rfl ?_
                                      refine pr_iload_n tX8_act_161 3 rfl ?_
                                      refine pr_imul (v := (nI (12 * ci))) tX8_act_162 (pk_mul _ _) ?_
                                      refine pr_aload_n tX8_act_163 2 rfl ?_
                                      refine pr_geta (j := 2) tX8_act_164 rfl rfl rfl rfl ?_
                                      refine pr_iload_n tX8_act_167 3 rfl ?_
                                      refine pr_ial tX8_act_168 ci rfl rfl (by omega) (by decide) ?_
                                      refine pR_topi (y := (nI ac)) (by simp [pm_ui, pm_uj, upd, vp_updL, ha]) ?_
                                      refine pr_iadd (v := (nI (12 * ci + ac))) tX8_act_169 (nI_add _ _) ?_
                                      refine pr_istore (L' := [(9, .inl (nI (12 * ci + ac))), (7, .inl (nI 1)), (8, .inl (nI 0)), (0, .inr (.inr 0)), (1, .inl (nI ci)), (2, .inl k), (3, .inl r), (4, .inl s), (5, .inr (.inl v))]) tX8_act_170 (by decide) rfl ?_
                                      refine pr_aload_n tX8_act_172 3 rfl ?_
                                      refine pr_geta (j := 3) tX8_act_173 rfl rfl rfl rfl ?_
                                      refine pr_iload tX8_act_176 0 rfl ?_
                                      refine pr_iload_n tX8_act_178 5 rfl ?_
                                      refine pr_ias tX8_act_179 (12 * ci + ac) rfl rfl (by omega) (by decide) ?_
                                      obtain ⟨σ11, eσ11⟩ : ∃ z : pST, z = (pm_ui σ.1 3 (12 * ci + ac) k, σ.2) := ⟨_, rfl⟩
                                      rw [← eσ11]
                                      refine pr_aload_n tX8_act_180 3 rfl ?_
                                      refine pr_geta (j := 4) tX8_act_181 rfl rfl rfl rfl ?_
                                      refine pr_iload tX8_act_184 0 rfl ?_
                                      refine pr_iload_n tX8_act_186 6 rfl ?_
                                      refine pr_ias tX8_act_187 (12 * ci + ac) rfl rfl (by omega) (by decide) ?_
                                      obtain ⟨σ12, eσ12⟩ : ∃ z : pST, z = (pm_ui σ11.1 4 (12 * ci + ac) r, σ11.2) := ⟨_, rfl⟩
                                      rw [← eσ12]
                                      refine pr_aload_n tX8_act_188 3 rfl ?_
                                      refine pr_geta (j := 5) tX8_act_189 rfl rfl rfl rfl ?_
                                      refine pr_iload tX8_act_192 0 rfl ?_
                                      refine pr_iload tX8_act_194 7 rfl ?_
                                      refine pr_ias tX8_act_196 (12 * ci + ac) rfl rfl (by omega) (by decide) ?_
                                      obtain ⟨σ13, eσ13⟩ : ∃ z : pST, z = (pm_ui σ12.1 5 (12 * ci + ac) s, σ12.2) := ⟨_, rfl⟩
                                      rw [← eσ13]
                                      refine pr_aload_n tX8_act_197 3 rfl ?_
                                      refine pr_geta (j := 6) tX8_act_198 rfl rfl rfl rfl ?_
                                      refine pr_iload tX8_act_201 0 rfl ?_
                                      refine pr_lload tX8_act_203 8 rfl ?_
                                      refine pr_las tX8_act_205 (12 * ci + ac) rfl rfl (by omega) (by decide) ?_
                                      obtain ⟨σ14, eσ14⟩ : ∃ z : pST, z = (σ13.1, pm_uj σ13.2 6 (12 * ci + ac) v) := ⟨_, rfl⟩
                                      rw [← eσ14]
                                      refine pr_aload_n tX8_act_206 3 rfl ?_
                                      refine pr_geta (j := 2) tX8_act_207 rfl rfl rfl rfl ?_
                                      refine pr_iload_n tX8_act_210 4 rfl ?_
                                      refine pr_dup2 tX8_act_211 ⟨rfl, rfl⟩ ?_
                                      refine pr_ial tX8_act_212 ci rfl rfl (by omega) (by decide) ?_
                                      refine pR_topi (y := (nI ac)) (by simp [eσ11, eσ12, eσ13, eσ14, pm_ui, pm_uj, upd, vp_updL, ha]) ?_
                                      refine pr_iconst (v := nI 1) tX8_act_213 rfl ?_
                                      refine pr_iadd (v := (nI (ac + 1))) tX8_act_214 (nI_add _ _) ?_
                                      refine pr_ias tX8_act_215 ci rfl rfl (by omega) (by decide) ?_
                                      obtain ⟨σ15, eσ15⟩ : ∃ z : pST, z = (pm_ui σ14.1 2 ci (nI (ac + 1)), σ14.2) := ⟨_, rfl⟩
                                      rw [← eσ15]
                                      refine pr_aload_n tX8_act_216 3 rfl ?_
                                      refine pr_geta (j := 2) tX8_act_217 rfl rfl rfl rfl ?_
                                      refine pr_iload_n tX8_act_220 4 rfl ?_
                                      refine pr_ial tX8_act_221 ci rfl rfl (by omega) (by decide) ?_
                                      refine pR_topi (y := (nI (ac + 1))) (by simp [eσ11, eσ12, eσ13, eσ14, eσ15, pm_ui, pm_uj, upd, vp_updL]) ?_
                                      refine pr_iret tX8_act_222 rfl ?_
                                      rw [if_pos (by grind), eσ15, eσ14, eσ13, eσ12, eσ11]
                                    · skip
                                      exact absurd (by decide) hc154
                      · skip
                        exact absurd (by decide) hc74
              · skip
                refine pr_iload_n tX8_act_45 3 rfl ?_
                refine pr_bipush (v := nI 6) tX8_act_46 rfl ?_
                refine pr_ic_gt (pc' := 55) tX8_act_48 rfl (fun hc48 => ?_) (fun hc48 => ?_)
                · skip
                  refine pr_iconst (v := nI 0) tX8_act_55 rfl ?_
                  refine pr_istore (L' := [(8, .inl (nI 0)), (7, .inl (nI 1)), (0, .inr (.inr 0)), (1, .inl (nI ci)), (2, .inl k), (3, .inl r), (4, .inl s), (5, .inr (.inl v))]) tX8_act_56 (by decide) rfl ?_
                  refine pr_iload tX8_act_58 1 rfl ?_
                  refine pr_if_eq (pc' := 100) tX8_act_60 rfl (fun hc60 => ?_) (fun hc60 => ?_)
                  · skip
                    exact absurd hc60 (by decide)
                  · skip
                    refine pr_iload_n tX8_act_63 5 rfl ?_
                    refine pr_if_lt (pc' := 100) tX8_act_64 rfl (fun hc64 => ?_) (fun hc64 => ?_)
                    · skip
                      refine pr_iconst (v := nI 0) tX8_act_100 rfl ?_
                      refine pr_istore (L' := [(7, .inl (nI 0)), (8, .inl (nI 0)), (0, .inr (.inr 0)), (1, .inl (nI ci)), (2, .inl k), (3, .inl r), (4, .inl s), (5, .inr (.inl v))]) tX8_act_101 (by decide) rfl ?_
                      refine pr_iload tX8_act_103 0 rfl ?_
                      refine pr_if_eq (pc' := 149) tX8_act_105 rfl (fun hc105 => ?_) (fun hc105 => ?_)
                      · skip
                        refine pr_iconst (v := nI 0) tX8_act_149 rfl ?_
                        refine pr_istore (L' := [(7, .inl (nI 0)), (8, .inl (nI 0)), (0, .inr (.inr 0)), (1, .inl (nI ci)), (2, .inl k), (3, .inl r), (4, .inl s), (5, .inr (.inl v))]) tX8_act_150 (by decide) rfl ?_
                        refine pr_iload tX8_act_152 0 rfl ?_
                        refine pr_if_ne (pc' := 159) tX8_act_154 rfl (fun hc154 => ?_) (fun hc154 => ?_)
                        · skip
                          exact absurd hc154 (by decide)
                        · skip
                          refine pr_iconst (v := -1) tX8_act_157 rfl ?_
                          refine pr_iret tX8_act_158 rfl ?_
                          rw [if_neg (by grind)]
                      · skip
                        exact absurd (by decide) hc105
                    · skip
                      refine pr_iload_n tX8_act_67 5 rfl ?_
                      refine pr_iconst (v := nI 3) tX8_act_68 rfl ?_
                      refine pr_ic_gt (pc' := 100) tX8_act_69 rfl (fun hc69 => ?_) (fun hc69 => ?_)
                      · skip
                        refine pr_iconst (v := nI 0) tX8_act_100 rfl ?_
                        refine pr_istore (L' := [(7, .inl (nI 0)), (8, .inl (nI 0)), (0, .inr (.inr 0)), (1, .inl (nI ci)), (2, .inl k), (3, .inl r), (4, .inl s), (5, .inr (.inl v))]) tX8_act_101 (by decide) rfl ?_
                        refine pr_iload tX8_act_103 0 rfl ?_
                        refine pr_if_eq (pc' := 149) tX8_act_105 rfl (fun hc105 => ?_) (fun hc105 => ?_)
                        · skip
                          refine pr_iconst (v := nI 0) tX8_act_149 rfl ?_
                          refine pr_istore (L' := [(7, .inl (nI 0)), (8, .inl (nI 0)), (0, .inr (.inr 0)), (1, .inl (nI ci)), (2, .inl k), (3, .inl r), (4, .inl s), (5, .inr (.inl v))]) tX8_act_150 (by decide) rfl ?_
                          refine pr_iload tX8_act_152 0 rfl ?_
                          refine pr_if_ne (pc' := 159) tX8_act_154 rfl (fun hc154 => ?_) (fun hc154 => ?_)
                          · skip
                            exact absurd hc154 (by decide)
                          · skip
                            refine pr_iconst (v := -1) tX8_act_157 rfl ?_
                            refine pr_iret tX8_act_158 rfl ?_
                            rw [if_neg (by grind)]
                        · skip
                          exact absurd (by decide) hc105
                      · skip
                        refine pr_iload tX8_act_72 0 rfl ?_
                        refine pr_if_eq (pc' := 91) tX8_act_74 rfl (fun hc74 => ?_) (fun hc74 => ?_)
                        · skip
                          refine pr_iload tX8_act_91 6 rfl ?_
                          refine pr_if_ne (pc' := 100) tX8_act_93 rfl (fun hc93 => ?_) (fun hc93 => ?_)
                          · skip
                            refine pr_iconst (v := nI 0) tX8_act_100 rfl ?_
                            refine pr_istore (L' := [(7, .inl (nI 0)), (8, .inl (nI 0)), (0, .inr (.inr 0)), (1, .inl (nI ci)), (2, .inl k), (3, .inl r), (4, .inl s), (5, .inr (.inl v))]) tX8_act_101 (by decide) rfl ?_
                            refine pr_iload tX8_act_103 0 rfl ?_
                            refine pr_if_eq (pc' := 149) tX8_act_105 rfl (fun hc105 => ?_) (fun hc105 => ?_)
                            · skip
                              refine pr_iconst (v := nI 0) tX8_act_149 rfl ?_
                              refine pr_istore (L' := [(7, .inl (nI 0)), (8, .inl (nI 0)), (0, .inr (.inr 0)), (1, .inl (nI ci)), (2, .inl k), (3, .inl r), (4, .inl s), (5, .inr (.inl v))]) tX8_act_150 (by decide) rfl ?_
                              refine pr_iload tX8_act_152 0 rfl ?_
                              refine pr_if_ne (pc' := 159) tX8_act_154 rfl (fun hc154 => ?_) (fun hc154 => ?_)
                              · skip
                                exact absurd hc154 (by decide)
                              · skip
                                refine pr_iconst (v := -1) tX8_act_157 rfl ?_
                                refine pr_iret tX8_act_158 rfl ?_
                                rw [if_neg (by grind)]
                            · skip
                              exact absurd (by decide) hc105
                          · skip
                            refine pr_iconst (v := nI 1) tX8_act_96 rfl ?_
                            refine pr_goto (pc' := 101) tX8_act_97 rfl ?_
                            refine pr_istore (L' := [(7, .inl (nI 1)), (8, .inl (nI 0)), (0, .inr (.inr 0)), (1, .inl (nI ci)), (2, .inl k), (3, .inl r), (4, .inl s), (5, .inr (.inl v))]) tX8_act_101 (by decide) rfl ?_
                            refine pr_iload tX8_act_103 0 rfl ?_
                            refine pr_if_eq (pc' := 149) tX8_act_105 rfl (fun hc105 => ?_) (fun hc105 => ?_)
                            · skip
                              exact absurd hc105 (by decide)
                            · skip
                              refine pr_iload_n tX8_act_108 4 rfl ?_
                              refine pr_iconst (v := nI 2) tX8_act_109 rfl ?_
                              refine pr_ic_le (pc' := 145) tX8_act_110 rfl (fun hc110 => ?_) (fun hc110 => ?_)
                              · skip
                                refine pr_iconst (v := nI 1) tX8_act_145 rfl ?_
                                refine pr_goto (pc' := 150) tX8_act_146 rfl ?_
                                refine pr_istore (L' := [(7, .inl (nI 1)), (8, .inl (nI 0)), (0, .inr (.inr 0)), (1, .inl (nI ci)), (2, .inl k), (3, .inl r), (4, .inl s), (5, .inr (.inl v))]) tX8_act_150 (by decide) rfl ?_
                                refine pr_iload tX8_act_152 0 rfl ?_
                                refine pr_if_ne (pc' := 159) tX8_act_154 rfl (fun hc154 => ?_) (fun hc154 => ?_)
                                · skip
                                  refine pr_bipush (v := nI 12) tX8_act_159 rfl ?_
                                  refine pr_iload_n tX8_act_161 3 rfl ?_
                                  refine pr_imul (v := (nI (12 * ci))) tX8_act_162 (pk_mul _ _) ?_
                                  refine pr_aload_n tX8_act_163 2 rfl ?_
                                  refine pr_geta (j := 2) tX8_act_164 rfl rfl rfl rfl ?_
                                  refine pr_iload_n tX8_act_167 3 rfl ?_
                                  refine pr_ial tX8_act_168 ci rfl rfl (by omega) (by decide) ?_
                                  refine pR_topi (y := (nI ac)) (by simp [pm_ui, pm_uj, upd, vp_updL, ha]) ?_
                                  refine pr_iadd (v := (nI (12 * ci + ac))) tX8_act_169 (nI_add _ _) ?_
                                  refine pr_istore (L' := [(9, .inl (nI (12 * ci + ac))), (7, .inl (nI 1)), (8, .inl (nI 0)), (0, .inr (.inr 0)), (1, .inl (nI ci)), (2, .inl k), (3, .inl r), (4, .inl s), (5, .inr (.inl v))]) tX8_act_170 (by decide) rfl ?_
                                  refine pr_aload_n tX8_act_172 3 rfl ?_
                                  refine pr_geta (j := 3) tX8_act_173 rfl rfl rfl rfl ?_
                                  refine pr_iload tX8_act_176 0 rfl ?_
                                  refine pr_iload_n tX8_act_178 5 rfl ?_
                                  refine pr_ias tX8_act_179 (12 * ci + ac) rfl rfl (by omega) (by decide) ?_
                                  obtain ⟨σ16, eσ16⟩ : ∃ z : pST, z = (pm_ui σ.1 3 (12 * ci + ac) k, σ.2) := ⟨_, rfl⟩
                                  rw [← eσ16]
                                  refine pr_aload_n tX8_act_180 3 rfl ?_
                                  refine pr_geta (j := 4) tX8_act_181 rfl rfl rfl rfl ?_
                                  refine pr_iload tX8_act_184 0 rfl ?_
                                  refine pr_iload_n tX8_act_186 6 rfl ?_
                                  refine pr_ias tX8_act_187 (12 * ci + ac) rfl rfl (by omega) (by decide) ?_
                                  obtain ⟨σ17, eσ17⟩ : ∃ z : pST, z = (pm_ui σ16.1 4 (12 * ci + ac) r, σ16.2) := ⟨_, rfl⟩
                                  rw [← eσ17]
                                  refine pr_aload_n tX8_act_188 3 rfl ?_
                                  refine pr_geta (j := 5) tX8_act_189 rfl rfl rfl rfl ?_
                                  refine pr_iload tX8_act_192 0 rfl ?_
                                  refine pr_iload tX8_act_194 7 rfl ?_
                                  refine pr_ias tX8_act_196 (12 * ci + ac) rfl rfl (by omega) (by decide) ?_
                                  obtain ⟨σ18, eσ18⟩ : ∃ z : pST, z = (pm_ui σ17.1 5 (12 * ci + ac) s, σ17.2) := ⟨_, rfl⟩
                                  rw [← eσ18]
                                  refine pr_aload_n tX8_act_197 3 rfl ?_
                                  refine pr_geta (j := 6) tX8_act_198 rfl rfl rfl rfl ?_
                                  refine pr_iload tX8_act_201 0 rfl ?_
                                  refine pr_lload tX8_act_203 8 rfl ?_
                                  refine pr_las tX8_act_205 (12 * ci + ac) rfl rfl (by omega) (by decide) ?_
                                  obtain ⟨σ19, eσ19⟩ : ∃ z : pST, z = (σ18.1, pm_uj σ18.2 6 (12 * ci + ac) v) := ⟨_, rfl⟩
                                  rw [← eσ19]
                                  refine pr_aload_n tX8_act_206 3 rfl ?_
                                  refine pr_geta (j := 2) tX8_act_207 rfl rfl rfl rfl ?_
                                  refine pr_iload_n tX8_act_210 4 rfl ?_
                                  refine pr_dup2 tX8_act_211 ⟨rfl, rfl⟩ ?_
                                  refine pr_ial tX8_act_212 ci rfl rfl (by omega) (by decide) ?_
                                  refine pR_topi (y := (nI ac)) (by simp [eσ16, eσ17, eσ18, eσ19, pm_ui, pm_uj, upd, vp_updL, ha]) ?_
                                  refine pr_iconst (v := nI 1) tX8_act_213 rfl ?_
                                  refine pr_iadd (v := (nI (ac + 1))) tX8_act_214 (nI_add _ _) ?_
                                  refine pr_ias tX8_act_215 ci rfl rfl (by omega) (by decide) ?_
                                  obtain ⟨σ20, eσ20⟩ : ∃ z : pST, z = (pm_ui σ19.1 2 ci (nI (ac + 1)), σ19.2) := ⟨_, rfl⟩
                                  rw [← eσ20]
                                  refine pr_aload_n tX8_act_216 3 rfl ?_
                                  refine pr_geta (j := 2) tX8_act_217 rfl rfl rfl rfl ?_
                                  refine pr_iload_n tX8_act_220 4 rfl ?_
                                  refine pr_ial tX8_act_221 ci rfl rfl (by omega) (by decide) ?_
                                  refine pR_topi (y := (nI (ac + 1))) (by simp [eσ16, eσ17, eσ18, eσ19, eσ20, pm_ui, pm_uj, upd, vp_updL]) ?_
                                  refine pr_iret tX8_act_222 rfl ?_
                                  rw [if_pos (by grind), eσ20, eσ19, eσ18, eσ17, eσ16]
                                · skip
                                  exact absurd (by decide) hc154
                              · skip
                                refine pr_iload_n tX8_act_113 4 rfl ?_
                                refine pr_bipush (v := nI 6) tX8_act_114 rfl ?_
                                refine pr_ic_ne (pc' := 138) tX8_act_116 rfl (fun hc116 => ?_) (fun hc116 => ?_)
                                · skip
                                  refine pr_lload tX8_act_138 7 rfl ?_
                                  refine pr_lconst (v := 0) tX8_act_140 rfl ?_
                                  refine pr_lcmp tX8_act_141 ?_
                                  refine pr_if_ne (pc' := 149) tX8_act_142 rfl (fun hc142 => ?_) (fun hc142 => ?_)
                                  · skip
                                    refine pr_iconst (v := nI 0) tX8_act_149 rfl ?_
                                    refine pr_istore (L' := [(7, .inl (nI 0)), (8, .inl (nI 0)), (0, .inr (.inr 0)), (1, .inl (nI ci)), (2, .inl k), (3, .inl r), (4, .inl s), (5, .inr (.inl v))]) tX8_act_150 (by decide) rfl ?_
                                    refine pr_iload tX8_act_152 0 rfl ?_
                                    refine pr_if_ne (pc' := 159) tX8_act_154 rfl (fun hc154 => ?_) (fun hc154 => ?_)
                                    · skip
                                      exact absurd hc154 (by decide)
                                    · skip
                                      refine pr_iconst (v := -1) tX8_act_157 rfl ?_
                                      refine pr_iret tX8_act_158 rfl ?_
                                      rw [if_neg (by grind)]
                                  · skip
                                    refine pr_iconst (v := nI 1) tX8_act_145 rfl ?_
                                    refine pr_goto (pc' := 150) tX8_act_146 rfl ?_
                                    refine pr_istore (L' := [(7, .inl (nI 1)), (8, .inl (nI 0)), (0, .inr (.inr 0)), (1, .inl (nI ci)), (2, .inl k), (3, .inl r), (4, .inl s), (5, .inr (.inl v))]) tX8_act_150 (by decide) rfl ?_
                                    refine pr_iload tX8_act_152 0 rfl ?_
                                    refine pr_if_ne (pc' := 159) tX8_act_154 rfl (fun hc154 => ?_) (fun hc154 => ?_)
                                    · skip
                                      refine pr_bipush (v := nI 12) tX8_act_159 rfl ?_
                                      refine pr_iload_n tX8_act_161 3 rfl ?_
                                      refine pr_imul (v := (nI (12 * ci))) tX8_act_162 (pk_mul _ _) ?_
                                      refine pr_aload_n tX8_act_163 2 rfl ?_
                                      refine pr_geta (j := 2) tX8_act_164 rfl rfl rfl rfl ?_
                                      refine pr_iload_n tX8_act_167 3 rfl ?_
                                      refine pr_ial tX8_act_168 ci rfl rfl (by omega) (by decide) ?_
                                      refine pR_topi (y := (nI ac)) (by simp [pm_ui, pm_uj, upd, vp_updL, ha]) ?_
                                      refine pr_iadd (v := (nI (12 * ci + ac))) tX8_act_169 (nI_add _ _) ?_
                                      refine pr_istore (L' := [(9, .inl (nI (12 * ci + ac))), (7, .inl (nI 1)), (8, .inl (nI 0)), (0, .inr (.inr 0)), (1, .inl (nI ci)), (2, .inl k), (3, .inl r), (4, .inl s), (5, .inr (.inl v))]) tX8_act_170 (by decide) rfl ?_
                                      refine pr_aload_n tX8_act_172 3 rfl ?_
                                      refine pr_geta (j := 3) tX8_act_173 rfl rfl rfl rfl ?_
                                      refine pr_iload tX8_act_176 0 rfl ?_
                                      refine pr_iload_n tX8_act_178 5 rfl ?_
                                      refine pr_ias tX8_act_179 (12 * ci + ac) rfl rfl (by omega) (by decide) ?_
                                      obtain ⟨σ21, eσ21⟩ : ∃ z : pST, z = (pm_ui σ.1 3 (12 * ci + ac) k, σ.2) := ⟨_, rfl⟩
                                      rw [← eσ21]
                                      refine pr_aload_n tX8_act_180 3 rfl ?_
                                      refine pr_geta (j := 4) tX8_act_181 rfl rfl rfl rfl ?_
                                      refine pr_iload tX8_act_184 0 rfl ?_
                                      refine pr_iload_n tX8_act_186 6 rfl ?_
                                      refine pr_ias tX8_act_187 (12 * ci + ac) rfl rfl (by omega) (by decide) ?_
                                      obtain ⟨σ22, eσ22⟩ : ∃ z : pST, z = (pm_ui σ21.1 4 (12 * ci + ac) r, σ21.2) := ⟨_, rfl⟩
                                      rw [← eσ22]
                                      refine pr_aload_n tX8_act_188 3 rfl ?_
                                      refine pr_geta (j := 5) tX8_act_189 rfl rfl rfl rfl ?_
                                      refine pr_iload tX8_act_192 0 rfl ?_
                                      refine pr_iload tX8_act_194 7 rfl ?_
                                      refine pr_ias tX8_act_196 (12 * ci + ac) rfl rfl (by omega) (by decide) ?_
                                      obtain ⟨σ23, eσ23⟩ : ∃ z : pST, z = (pm_ui σ22.1 5 (12 * ci + ac) s, σ22.2) := ⟨_, rfl⟩
                                      rw [← eσ23]
                                      refine pr_aload_n tX8_act_197 3 rfl ?_
                                      refine pr_geta (j := 6) tX8_act_198 rfl rfl rfl rfl ?_
                                      refine pr_iload tX8_act_201 0 rfl ?_
                                      refine pr_lload tX8_act_203 8 rfl ?_
                                      refine pr_las tX8_act_205 (12 * ci + ac) rfl rfl (by omega) (by decide) ?_
                                      obtain ⟨σ24, eσ24⟩ : ∃ z : pST, z = (σ23.1, pm_uj σ23.2 6 (12 * ci + ac) v) := ⟨_, rfl⟩
                                      rw [← eσ24]
                                      refine pr_aload_n tX8_act_206 3 rfl ?_
                                      refine pr_geta (j := 2) tX8_act_207 rfl rfl rfl rfl ?_
                                      refine pr_iload_n tX8_act_210 4 rfl ?_
                                      refine pr_dup2 tX8_act_211 ⟨rfl, rfl⟩ ?_
                                      refine pr_ial tX8_act_212 ci rfl rfl (by omega) (by decide) ?_
                                      refine pR_topi (y := (nI ac)) (by simp [eσ21, eσ22, eσ23, eσ24, pm_ui, pm_uj, upd, vp_updL, ha]) ?_
                                      refine pr_iconst (v := nI 1) tX8_act_213 rfl ?_
                                      refine pr_iadd (v := (nI (ac + 1))) tX8_act_214 (nI_add _ _) ?_
                                      refine pr_ias tX8_act_215 ci rfl rfl (by omega) (by decide) ?_
                                      obtain ⟨σ25, eσ25⟩ : ∃ z : pST, z = (pm_ui σ24.1 2 ci (nI (ac + 1)), σ24.2) := ⟨_, rfl⟩
                                      rw [← eσ25]
                                      refine pr_aload_n tX8_act_216 3 rfl ?_
                                      refine pr_geta (j := 2) tX8_act_217 rfl rfl rfl rfl ?_
                                      refine pr_iload_n tX8_act_220 4 rfl ?_
                                      refine pr_ial tX8_act_221 ci rfl rfl (by omega) (by decide) ?_
                                      refine pR_topi (y := (nI (ac + 1))) (by simp [eσ21, eσ22, eσ23, eσ24, eσ25, pm_ui, pm_uj, upd, vp_updL]) ?_
                                      refine pr_iret tX8_act_222 rfl ?_
                                      rw [if_pos (by grind), eσ25, eσ24, eσ23, eσ22, eσ21]
                                    · skip
                                      exact absurd (by decide) hc154
                                · skip
                                  refine pr_lload tX8_act_119 7 rfl ?_
                                  refine pr_lconst (v := 1) tX8_act_121 rfl ?_
                                  refine pr_lcmp tX8_act_122 ?_
                                  refine pr_if_lt (pc' := 149) tX8_act_123 rfl (fun hc123 => ?_) (fun hc123 => ?_)
                                  · skip
                                    refine pr_iconst (v := nI 0) tX8_act_149 rfl ?_
                                    refine pr_istore (L' := [(7, .inl (nI 0)), (8, .inl (nI 0)), (0, .inr (.inr 0)), (1, .inl (nI ci)), (2, .inl k), (3, .inl r), (4, .inl s), (5, .inr (.inl v))]) tX8_act_150 (by decide) rfl ?_
                                    refine pr_iload tX8_act_152 0 rfl ?_
                                    refine pr_if_ne (pc' := 159) tX8_act_154 rfl (fun hc154 => ?_) (fun hc154 => ?_)
                                    · skip
                                      exact absurd hc154 (by decide)
                                    · skip
                                      refine pr_iconst (v := -1) tX8_act_157 rfl ?_
                                      refine pr_iret tX8_act_158 rfl ?_
                                      rw [if_neg (by grind)]
                                  · skip
                                    refine pr_lload tX8_act_126 7 rfl ?_
                                    refine pr_ldc2 tX8_act_128 rfl ?_
                                    refine pr_lcmp tX8_act_131 ?_
                                    refine pr_if_gt (pc' := 149) tX8_act_132 rfl (fun hc132 => ?_) (fun hc132 => ?_)
                                    · skip
                                      refine pr_iconst (v := nI 0) tX8_act_149 rfl ?_
                                      refine pr_istore (L' := [(7, .inl (nI 0)), (8, .inl (nI 0)), (0, .inr (.inr 0)), (1, .inl (nI ci)), (2, .inl k), (3, .inl r), (4, .inl s), (5, .inr (.inl v))]) tX8_act_150 (by decide) rfl ?_
                                      refine pr_iload tX8_act_152 0 rfl ?_
                                      refine pr_if_ne (pc' := 159) tX8_act_154 rfl (fun hc154 => ?_) (fun hc154 => ?_)
                                      · skip
                                        exact absurd hc154 (by decide)
                                      · skip
                                        refine pr_iconst (v := -1) tX8_act_157 rfl ?_
                                        refine pr_iret tX8_act_158 rfl ?_
                                        rw [if_neg (by grind)]
                                    · skip
                                      refine pr_goto (pc' := 145) tX8_act_135 rfl ?_
                                      refine pr_iconst (v := nI 1) tX8_act_145 rfl ?_
                                      refine pr_goto (pc' := 150) tX8_act_146 rfl ?_
                                      refine pr_istore (L' := [(7, .inl (nI 1)), (8, .inl (nI 0)), (0, .inr (.inr 0)), (1, .inl (nI ci)), (2, .inl k), (3, .inl r), (4, .inl s), (5, .inr (.inl v))]) tX8_act_150 (by decide) rfl ?_
                                      refine pr_iload tX8_act_152 0 rfl ?_
                                      refine pr_if_ne (pc' := 159) tX8_act_154 rfl (fun hc154 => ?_) (fun hc154 => ?_)
                                      · skip
                                        refine pr_bipush (v := nI 12) tX8_act_159 rfl ?_
                                        refine pr_iload_n tX8_act_161 3 rfl ?_
                                        refine pr_imul (v := (nI (12 * ci))) tX8_act_162 (pk_mul _ _) ?_
                                        refine pr_aload_n tX8_act_163 2 rfl ?_
                                        refine pr_geta (j := 2) tX8_act_164 rfl rfl rfl rfl ?_
                                        refine pr_iload_n tX8_act_167 3 rfl ?_
                                        refine pr_ial tX8_act_168 ci rfl rfl (by omega) (by decide) ?_
                                        refine pR_topi (y := (nI ac)) (by simp [pm_ui, pm_uj, upd, vp_updL, ha]) ?_
                                        refine pr_iadd (v := (nI (12 * ci + ac))) tX8_act_169 (nI_add _ _) ?_
                                        refine pr_istore (L' := [(9, .inl (nI (12 * ci + ac))), (7, .inl (nI 1)), (8, .inl (nI 0)), (0, .inr (.inr 0)), (1, .inl (nI ci)), (2, .inl k), (3, .inl r), (4, .inl s), (5, .inr (.inl v))]) tX8_act_170 (by decide) rfl ?_
                                        refine pr_aload_n tX8_act_172 3 rfl ?_
                                        refine pr_geta (j := 3) tX8_act_173 rfl rfl rfl rfl ?_
                                        refine pr_iload tX8_act_176 0 rfl ?_
                                        refine pr_iload_n tX8_act_178 5 rfl ?_
                                        refine pr_ias tX8_act_179 (12 * ci + ac) rfl rfl (by omega) (by decide) ?_
                                        obtain ⟨σ26, eσ26⟩ : ∃ z : pST, z = (pm_ui σ.1 3 (12 * ci + ac) k, σ.2) := ⟨_, rfl⟩
                                        rw [← eσ26]
                                        refine pr_aload_n tX8_act_180 3 rfl ?_
                                        refine pr_geta (j := 4) tX8_act_181 rfl rfl rfl rfl ?_
                                        refine pr_iload tX8_act_184 0 rfl ?_
                                        refine pr_iload_n tX8_act_186 6 rfl ?_
                                        refine pr_ias tX8_act_187 (12 * ci + ac) rfl rfl (by omega) (by decide) ?_
                                        obtain ⟨σ27, eσ27⟩ : ∃ z : pST, z = (pm_ui σ26.1 4 (12 * ci + ac) r, σ26.2) := ⟨_, rfl⟩
                                        rw [← eσ27]
                                        refine pr_aload_n tX8_act_188 3 rfl ?_
                                        refine pr_geta (j := 5) tX8_act_189 rfl rfl rfl rfl ?_
                                        refine pr_iload tX8_act_192 0 rfl ?_
                                        refine pr_iload tX8_act_194 7 rfl ?_
                                        refine pr_ias tX8_act_196 (12 * ci + ac) rfl rfl (by omega) (by decide) ?_
                                        obtain ⟨σ28, eσ28⟩ : ∃ z : pST, z = (pm_ui σ27.1 5 (12 * ci + ac) s, σ27.2) := ⟨_, rfl⟩
                                        rw [← eσ28]
                                        refine pr_aload_n tX8_act_197 3 rfl ?_
                                        refine pr_geta (j := 6) tX8_act_198 rfl rfl rfl rfl ?_
                                        refine pr_iload tX8_act_201 0 rfl ?_
                                        refine pr_lload tX8_act_203 8 rfl ?_
                                        refine pr_las tX8_act_205 (12 * ci + ac) rfl rfl (by omega) (by decide) ?_
                                        obtain ⟨σ29, eσ29⟩ : ∃ z : pST, z = (σ28.1, pm_uj σ28.2 6 (12 * ci + ac) v) := ⟨_, rfl⟩
                                        rw [← eσ29]
                                        refine pr_aload_n tX8_act_206 3 rfl ?_
                                        refine pr_geta (j := 2) tX8_act_207 rfl rfl rfl rfl ?_
                                        refine pr_iload_n tX8_act_210 4 rfl ?_
                                        refine pr_dup2 tX8_act_211 ⟨rfl, rfl⟩ ?_
                                        refine pr_ial tX8_act_212 ci rfl rfl (by omega) (by decide) ?_
                                        refine pR_topi (y := (nI ac)) (by simp [eσ26, eσ27, eσ28, eσ29, pm_ui, pm_uj, upd, vp_updL, ha]) ?_
                                        refine pr_iconst (v := nI 1) tX8_act_213 rfl ?_
                                        refine pr_iadd (v := (nI (ac + 1))) tX8_act_214 (nI_add _ _) ?_
                                        refine pr_ias tX8_act_215 ci rfl rfl (by omega) (by decide) ?_
                                        obtain ⟨σ30, eσ30⟩ : ∃ z : pST, z = (pm_ui σ29.1 2 ci (nI (ac + 1)), σ29.2) := ⟨_, rfl⟩
                                        rw [← eσ30]
                                        refine pr_aload_n tX8_act_216 3 rfl ?_
                                        refine pr_geta (j := 2) tX8_act_217 rfl rfl rfl rfl ?_
                                        refine pr_iload_n tX8_act_220 4 rfl ?_
                                        refine pr_ial tX8_act_221 ci rfl rfl (by omega) (by decide) ?_
                                        refine pR_topi (y := (nI (ac + 1))) (by simp [eσ26, eσ27, eσ28, eσ29, eσ30, pm_ui, pm_uj, upd, vp_updL]) ?_
                                        refine pr_iret tX8_act_222 rfl ?_
                                        rw [if_pos (by grind), eσ30, eσ29, eσ28, eσ27, eσ26]
                                      · skip
                                        exact absurd (by decide) hc154
                        · skip
                          exact absurd (by decide) hc74
                · skip
                  refine pr_iconst (v := nI 1) tX8_act_51 rfl ?_
                  refine pr_goto (pc' := 56) tX8_act_52 rfl ?_
                  refine pr_istore (L' := [(8, .inl (nI 1)), (7, .inl (nI 1)), (0, .inr (.inr 0)), (1, .inl (nI ci)), (2, .inl k), (3, .inl r), (4, .inl s), (5, .inr (.inl v))]) tX8_act_56 (by decide) rfl ?_
                  refine pr_iload tX8_act_58 1 rfl ?_
                  refine pr_if_eq (pc' := 100) tX8_act_60 rfl (fun hc60 => ?_) (fun hc60 => ?_)
                  · skip
                    exact absurd hc60 (by decide)
                  · skip
                    refine pr_iload_n tX8_act_63 5 rfl ?_
                    refine pr_if_lt (pc' := 100) tX8_act_64 rfl (fun hc64 => ?_) (fun hc64 => ?_)
                    · skip
                      refine pr_iconst (v := nI 0) tX8_act_100 rfl ?_
                      refine pr_istore (L' := [(7, .inl (nI 0)), (8, .inl (nI 1)), (0, .inr (.inr 0)), (1, .inl (nI ci)), (2, .inl k), (3, .inl r), (4, .inl s), (5, .inr (.inl v))]) tX8_act_101 (by decide) rfl ?_
                      refine pr_iload tX8_act_103 0 rfl ?_
                      refine pr_if_eq (pc' := 149) tX8_act_105 rfl (fun hc105 => ?_) (fun hc105 => ?_)
                      · skip
                        refine pr_iconst (v := nI 0) tX8_act_149 rfl ?_
                        refine pr_istore (L' := [(7, .inl (nI 0)), (8, .inl (nI 1)), (0, .inr (.inr 0)), (1, .inl (nI ci)), (2, .inl k), (3, .inl r), (4, .inl s), (5, .inr (.inl v))]) tX8_act_150 (by decide) rfl ?_
                        refine pr_iload tX8_act_152 0 rfl ?_
                        refine pr_if_ne (pc' := 159) tX8_act_154 rfl (fun hc154 => ?_) (fun hc154 => ?_)
                        · skip
                          exact absurd hc154 (by decide)
                        · skip
                          refine pr_iconst (v := -1) tX8_act_157 rfl ?_
                          refine pr_iret tX8_act_158 rfl ?_
                          rw [if_neg (by grind)]
                      · skip
                        exact absurd (by decide) hc105
                    · skip
                      refine pr_iload_n tX8_act_67 5 rfl ?_
                      refine pr_iconst (v := nI 3) tX8_act_68 rfl ?_
                      refine pr_ic_gt (pc' := 100) tX8_act_69 rfl (fun hc69 => ?_) (fun hc69 => ?_)
                      · skip
                        refine pr_iconst (v := nI 0) tX8_act_100 rfl ?_
                        refine pr_istore (L' := [(7, .inl (nI 0)), (8, .inl (nI 1)), (0, .inr (.inr 0)), (1, .inl (nI ci)), (2, .inl k), (3, .inl r), (4, .inl s), (5, .inr (.inl v))]) tX8_act_101 (by decide) rfl ?_
                        refine pr_iload tX8_act_103 0 rfl ?_
                        refine pr_if_eq (pc' := 149) tX8_act_105 rfl (fun hc105 => ?_) (fun hc105 => ?_)
                        · skip
                          refine pr_iconst (v := nI 0) tX8_act_149 rfl ?_
                          refine pr_istore (L' := [(7, .inl (nI 0)), (8, .inl (nI 1)), (0, .inr (.inr 0)), (1, .inl (nI ci)), (2, .inl k), (3, .inl r), (4, .inl s), (5, .inr (.inl v))]) tX8_act_150 (by decide) rfl ?_
                          refine pr_iload tX8_act_152 0 rfl ?_
                          refine pr_if_ne (pc' := 159) tX8_act_154 rfl (fun hc154 => ?_) (fun hc154 => ?_)
                          · skip
                            exact absurd hc154 (by decide)
                          · skip
                            refine pr_iconst (v := -1) tX8_act_157 rfl ?_
                            refine pr_iret tX8_act_158 rfl ?_
                            rw [if_neg (by grind)]
                        · skip
                          exact absurd (by decide) hc105
                      · skip
                        refine pr_iload tX8_act_72 0 rfl ?_
                        refine pr_if_eq (pc' := 91) tX8_act_74 rfl (fun hc74 => ?_) (fun hc74 => ?_)
                        · skip
                          exact absurd hc74 (by decide)
                        · skip
                          refine pr_iload tX8_act_77 6 rfl ?_
                          refine pr_if_lt (pc' := 100) tX8_act_79 rfl (fun hc79 => ?_) (fun hc79 => ?_)
                          · skip
                            refine pr_iconst (v := nI 0) tX8_act_100 rfl ?_
                            refine pr_istore (L' := [(7, .inl (nI 0)), (8, .inl (nI 1)), (0, .inr (.inr 0)), (1, .inl (nI ci)), (2, .inl k), (3, .inl r), (4, .inl s), (5, .inr (.inl v))]) tX8_act_101 (by decide) rfl ?_
                            refine pr_iload tX8_act_103 0 rfl ?_
                            refine pr_if_eq (pc' := 149) tX8_act_105 rfl (fun hc105 => ?_) (fun hc105 => ?_)
                            · skip
                              refine pr_iconst (v := nI 0) tX8_act_149 rfl ?_
                              refine pr_istore (L' := [(7, .inl (nI 0)), (8, .inl (nI 1)), (0, .inr (.inr 0)), (1, .inl (nI ci)), (2, .inl k), (3, .inl r), (4, .inl s), (5, .inr (.inl v))]) tX8_act_150 (by decide) rfl ?_
                              refine pr_iload tX8_act_152 0 rfl ?_
                              refine pr_if_ne (pc' := 159) tX8_act_154 rfl (fun hc154 => ?_) (fun hc154 => ?_)
                              · skip
                                exact absurd hc154 (by decide)
                              · skip
                                refine pr_iconst (v := -1) tX8_act_157 rfl ?_
                                refine pr_iret tX8_act_158 rfl ?_
                                rw [if_neg (by grind)]
                            · skip
                              exact absurd (by decide) hc105
                          · skip
                            refine pr_iload tX8_act_82 6 rfl ?_
                            refine pr_iconst (v := nI 3) tX8_act_84 rfl ?_
                            refine pr_ic_gt (pc' := 100) tX8_act_85 rfl (fun hc85 => ?_) (fun hc85 => ?_)
                            · skip
                              refine pr_iconst (v := nI 0) tX8_act_100 rfl ?_
                              refine pr_istore (L' := [(7, .inl (nI 0)), (8, .inl (nI 1)), (0, .inr (.inr 0)), (1, .inl (nI ci)), (2, .inl k), (3, .inl r), (4, .inl s), (5, .inr (.inl v))]) tX8_act_101 (by decide) rfl ?_
                              refine pr_iload tX8_act_103 0 rfl ?_
                              refine pr_if_eq (pc' := 149) tX8_act_105 rfl (fun hc105 => ?_) (fun hc105 => ?_)
                              · skip
                                refine pr_iconst (v := nI 0) tX8_act_149 rfl ?_
                                refine pr_istore (L' := [(7, .inl (nI 0)), (8, .inl (nI 1)), (0, .inr (.inr 0)), (1, .inl (nI ci)), (2, .inl k), (3, .inl r), (4, .inl s), (5, .inr (.inl v))]) tX8_act_150 (by decide) rfl ?_
                                refine pr_iload tX8_act_152 0 rfl ?_
                                refine pr_if_ne (pc' := 159) tX8_act_154 rfl (fun hc154 => ?_) (fun hc154 => ?_)
                                · skip
                                  exact absurd hc154 (by decide)
                                · skip
                                  refine pr_iconst (v := -1) tX8_act_157 rfl ?_
                                  refine pr_iret tX8_act_158 rfl ?_
                                  rw [if_neg (by grind)]
                              · skip
                                exact absurd (by decide) hc105
                            · skip
                              refine pr_goto (pc' := 96) tX8_act_88 rfl ?_
                              refine pr_iconst (v := nI 1) tX8_act_96 rfl ?_
                              refine pr_goto (pc' := 101) tX8_act_97 rfl ?_
                              refine pr_istore (L' := [(7, .inl (nI 1)), (8, .inl (nI 1)), (0, .inr (.inr 0)), (1, .inl (nI ci)), (2, .inl k), (3, .inl r), (4, .inl s), (5, .inr (.inl v))]) tX8_act_101 (by decide) rfl ?_
                              refine pr_iload tX8_act_103 0 rfl ?_
                              refine pr_if_eq (pc' := 149) tX8_act_105 rfl (fun hc105 => ?_) (fun hc105 => ?_)
                              · skip
                                exact absurd hc105 (by decide)
                              · skip
                                refine pr_iload_n tX8_act_108 4 rfl ?_
                                refine pr_iconst (v := nI 2) tX8_act_109 rfl ?_
                                refine pr_ic_le (pc' := 145) tX8_act_110 rfl (fun hc110 => ?_) (fun hc110 => ?_)
                                · skip
                                  refine pr_iconst (v := nI 1) tX8_act_145 rfl ?_
                                  refine pr_goto (pc' := 150) tX8_act_146 rfl ?_
                                  refine pr_istore (L' := [(7, .inl (nI 1)), (8, .inl (nI 1)), (0, .inr (.inr 0)), (1, .inl (nI ci)), (2, .inl k), (3, .inl r), (4, .inl s), (5, .inr (.inl v))]) tX8_act_150 (by decide) rfl ?_
                                  refine pr_iload tX8_act_152 0 rfl ?_
                                  refine pr_if_ne (pc' := 159) tX8_act_154 rfl (fun hc154 => ?_) (fun hc154 => ?_)
                                  · skip
                                    refine pr_bipush (v := nI 12) tX8_act_159 rfl ?_
                                    refine pr_iload_n tX8_act_161 3 rfl ?_
                                    refine pr_imul (v := (nI (12 * ci))) tX8_act_162 (pk_mul _ _) ?_
                                    refine pr_aload_n tX8_act_163 2 rfl ?_
                                    refine pr_geta (j := 2) tX8_act_164 rfl rfl rfl rfl ?_
                                    refine pr_iload_n tX8_act_167 3 rfl ?_
                                    refine pr_ial tX8_act_168 ci rfl rfl (by omega) (by decide) ?_
                                    refine pR_topi (y := (nI ac)) (by simp [pm_ui, pm_uj, upd, vp_updL, ha]) ?_
                                    refine pr_iadd (v := (nI (12 * ci + ac))) tX8_act_169 (nI_add _ _) ?_
                                    refine pr_istore (L' := [(9, .inl (nI (12 * ci + ac))), (7, .inl (nI 1)), (8, .inl (nI 1)), (0, .inr (.inr 0)), (1, .inl (nI ci)), (2, .inl k), (3, .inl r), (4, .inl s), (5, .inr (.inl v))]) tX8_act_170 (by decide) rfl ?_
                                    refine pr_aload_n tX8_act_172 3 rfl ?_
                                    refine pr_geta (j := 3) tX8_act_173 rfl rfl rfl rfl ?_
                                    refine pr_iload tX8_act_176 0 rfl ?_
                                    refine pr_iload_n tX8_act_178 5 rfl ?_
                                    refine pr_ias tX8_act_179 (12 * ci + ac) rfl rfl (by omega) (by decide) ?_
                                    obtain ⟨σ31, eσ31⟩ : ∃ z : pST, z = (pm_ui σ.1 3 (12 * ci + ac) k, σ.2) := ⟨_, rfl⟩
                                    rw [← eσ31]
                                    refine pr_aload_n tX8_act_180 3 rfl ?_
                                    refine pr_geta (j := 4) tX8_act_181 rfl rfl rfl rfl ?_
                                    refine pr_iload tX8_act_184 0 rfl ?_
                                    refine pr_iload_n tX8_act_186 6 rfl ?_
                                    refine pr_ias tX8_act_187 (12 * ci + ac) rfl rfl (by omega) (by decide) ?_
                                    obtain ⟨σ32, eσ32⟩ : ∃ z : pST, z = (pm_ui σ31.1 4 (12 * ci + ac) r, σ31.2) := ⟨_, rfl⟩
                                    rw [← eσ32]
                                    refine pr_aload_n tX8_act_188 3 rfl ?_
                                    refine pr_geta (j := 5) tX8_act_189 rfl rfl rfl rfl ?_
                                    refine pr_iload tX8_act_192 0 rfl ?_
                                    refine pr_iload tX8_act_194 7 rfl ?_
                                    refine pr_ias tX8_act_196 (12 * ci + ac) rfl rfl (by omega) (by decide) ?_
                                    obtain ⟨σ33, eσ33⟩ : ∃ z : pST, z = (pm_ui σ32.1 5 (12 * ci + ac) s, σ32.2) := ⟨_, rfl⟩
                                    rw [← eσ33]
                                    refine pr_aload_n tX8_act_197 3 rfl ?_
                                    refine pr_geta (j := 6) tX8_act_198 rfl rfl rfl rfl ?_
                                    refine pr_iload tX8_act_201 0 rfl ?_
                                    refine pr_lload tX8_act_203 8 rfl ?_
                                    refine pr_las tX8_act_205 (12 * ci + ac) rfl rfl (by omega) (by decide) ?_
                                    obtain ⟨σ34, eσ34⟩ : ∃ z : pST, z = (σ33.1, pm_uj σ33.2 6 (12 * ci + ac) v) := ⟨_, rfl⟩
                                    rw [← eσ34]
                                    refine pr_aload_n tX8_act_206 3 rfl ?_
                                    refine pr_geta (j := 2) tX8_act_207 rfl rfl rfl rfl ?_
                                    refine pr_iload_n tX8_act_210 4 rfl ?_
                                    refine pr_dup2 tX8_act_211 ⟨rfl, rfl⟩ ?_
                                    refine pr_ial tX8_act_212 ci rfl rfl (by omega) (by decide) ?_
                                    refine pR_topi (y := (nI ac)) (by simp [eσ31, eσ32, eσ33, eσ34, pm_ui, pm_uj, upd, vp_updL, ha]) ?_
                                    refine pr_iconst (v := nI 1) tX8_act_213 rfl ?_
                                    refine pr_iadd (v := (nI (ac + 1))) tX8_act_214 (nI_add _ _) ?_
                                    refine pr_ias tX8_act_215 ci rfl rfl (by omega) (by decide) ?_
                                    obtain ⟨σ35, eσ35⟩ : ∃ z : pST, z = (pm_ui σ34.1 2 ci (nI (ac + 1)), σ34.2) := ⟨_, rfl⟩
                                    rw [← eσ35]
                                    refine pr_aload_n tX8_act_216 3 rfl ?_
                                    refine pr_geta (j := 2) tX8_act_217 rfl rfl rfl rfl ?_
                                    refine pr_iload_n tX8_act_220 4 rfl ?_
                                    refine pr_ial tX8_act_221 ci rfl rfl (by omega) (by decide) ?_
                                    refine pR_topi (y := (nI (ac + 1))) (by simp [eσ31, eσ32, eσ33, eσ34, eσ35, pm_ui, pm_uj, upd, vp_updL]) ?_
                                    refine pr_iret tX8_act_222 rfl ?_
                                    rw [if_pos (by grind), eσ35, eσ34, eσ33, eσ32, eσ31]
                                  · skip
                                    exact absurd (by decide) hc154
                                · skip
                                  refine pr_iload_n tX8_act_113 4 rfl ?_
                                  refine pr_bipush (v := nI 6) tX8_act_114 rfl ?_
                                  refine pr_ic_ne (pc' := 138) tX8_act_116 rfl (fun hc116 => ?_) (fun hc116 => ?_)
                                  · skip
                                    refine pr_lload tX8_act_138 7 rfl ?_
                                    refine pr_lconst (v := 0) tX8_act_140 rfl ?_
                                    refine pr_lcmp tX8_act_141 ?_
                                    refine pr_if_ne (pc' := 149) tX8_act_142 rfl (fun hc142 => ?_) (fun hc142 => ?_)
                                    · skip
                                      refine pr_iconst (v := nI 0) tX8_act_149 rfl ?_
                                      refine pr_istore (L' := [(7, .inl (nI 0)), (8, .inl (nI 1)), (0, .inr (.inr 0)), (1, .inl (nI ci)), (2, .inl k), (3, .inl r), (4, .inl s), (5, .inr (.inl v))]) tX8_act_150 (by decide) rfl ?_
                                      refine pr_iload tX8_act_152 0 rfl ?_
                                      refine pr_if_ne (pc' := 159) tX8_act_154 rfl (fun hc154 => ?_) (fun hc154 => ?_)
                                      · skip
                                        exact absurd hc154 (by decide)
                                      · skip
                                        refine pr_iconst (v := -1) tX8_act_157 rfl ?_
                                        refine pr_iret tX8_act_158 rfl ?_
                                        rw [if_neg (by grind)]
                                    · skip
                                      refine pr_iconst (v := nI 1) tX8_act_145 rfl ?_
                                      refine pr_goto (pc' := 150) tX8_act_146 rfl ?_
                                      refine pr_istore (L' := [(7, .inl (nI 1)), (8, .inl (nI 1)), (0, .inr (.inr 0)), (1, .inl (nI ci)), (2, .inl k), (3, .inl r), (4, .inl s), (5, .inr (.inl v))]) tX8_act_150 (by decide) rfl ?_
                                      refine pr_iload tX8_act_152 0 rfl ?_
                                      refine pr_if_ne (pc' := 159) tX8_act_154 rfl (fun hc154 => ?_) (fun hc154 => ?_)
                                      · skip
                                        refine pr_bipush (v := nI 12) tX8_act_159 rfl ?_
                                        refine pr_iload_n tX8_act_161 3 rfl ?_
                                        refine pr_imul (v := (nI (12 * ci))) tX8_act_162 (pk_mul _ _) ?_
                                        refine pr_aload_n tX8_act_163 2 rfl ?_
                                        refine pr_geta (j := 2) tX8_act_164 rfl rfl rfl rfl ?_
                                        refine pr_iload_n tX8_act_167 3 rfl ?_
                                        refine pr_ial tX8_act_168 ci rfl rfl (by omega) (by decide) ?_
                                        refine pR_topi (y := (nI ac)) (by simp [pm_ui, pm_uj, upd, vp_updL, ha]) ?_
                                        refine pr_iadd (v := (nI (12 * ci + ac))) tX8_act_169 (nI_add _ _) ?_
                                        refine pr_istore (L' := [(9, .inl (nI (12 * ci + ac))), (7, .inl (nI 1)), (8, .inl (nI 1)), (0, .inr (.inr 0)), (1, .inl (nI ci)), (2, .inl k), (3, .inl r), (4, .inl s), (5, .inr (.inl v))]) tX8_act_170 (by decide) rfl ?_
                                        refine pr_aload_n tX8_act_172 3 rfl ?_
                                        refine pr_geta (j := 3) tX8_act_173 rfl rfl rfl rfl ?_
                                        refine pr_iload tX8_act_176 0 rfl ?_
                                        refine pr_iload_n tX8_act_178 5 rfl ?_
                                        refine pr_ias tX8_act_179 (12 * ci + ac) rfl rfl (by omega) (by decide) ?_
                                        obtain ⟨σ36, eσ36⟩ : ∃ z : pST, z = (pm_ui σ.1 3 (12 * ci + ac) k, σ.2) := ⟨_, rfl⟩
                                        rw [← eσ36]
                                        refine pr_aload_n tX8_act_180 3 rfl ?_
                                        refine pr_geta (j := 4) tX8_act_181 rfl rfl rfl rfl ?_
                                        refine pr_iload tX8_act_184 0 rfl ?_
                                        refine pr_iload_n tX8_act_186 6 rfl ?_
                                        refine pr_ias tX8_act_187 (12 * ci + ac) rfl rfl (by omega) (by decide) ?_
                                        obtain ⟨σ37, eσ37⟩ : ∃ z : pST, z = (pm_ui σ36.1 4 (12 * ci + ac) r, σ36.2) := ⟨_, rfl⟩
                                        rw [← eσ37]
                                        refine pr_aload_n tX8_act_188 3 rfl ?_
                                        refine pr_geta (j := 5) tX8_act_189 rfl rfl rfl rfl ?_
                                        refine pr_iload tX8_act_192 0 rfl ?_
                                        refine pr_iload tX8_act_194 7 rfl ?_
                                        refine pr_ias tX8_act_196 (12 * ci + ac) rfl rfl (by omega) (by decide) ?_
                                        obtain ⟨σ38, eσ38⟩ : ∃ z : pST, z = (pm_ui σ37.1 5 (12 * ci + ac) s, σ37.2) := ⟨_, rfl⟩
                                        rw [← eσ38]
                                        refine pr_aload_n tX8_act_197 3 rfl ?_
                                        refine pr_geta (j := 6) tX8_act_198 rfl rfl rfl rfl ?_
                                        refine pr_iload tX8_act_201 0 rfl ?_
                                        refine pr_lload tX8_act_203 8 rfl ?_
                                        refine pr_las tX8_act_205 (12 * ci + ac) rfl rfl (by omega) (by decide) ?_
                                        obtain ⟨σ39, eσ39⟩ : ∃ z : pST, z = (σ38.1, pm_uj σ38.2 6 (12 * ci + ac) v) := ⟨_, rfl⟩
                                        rw [← eσ39]
                                        refine pr_aload_n tX8_act_206 3 rfl ?_
                                        refine pr_geta (j := 2) tX8_act_207 rfl rfl rfl rfl ?_
                                        refine pr_iload_n tX8_act_210 4 rfl ?_
                                        refine pr_dup2 tX8_act_211 ⟨rfl, rfl⟩ ?_
                                        refine pr_ial tX8_act_212 ci rfl rfl (by omega) (by decide) ?_
                                        refine pR_topi (y := (nI ac)) (by simp [eσ36, eσ37, eσ38, eσ39, pm_ui, pm_uj, upd, vp_updL, ha]) ?_
                                        refine pr_iconst (v := nI 1) tX8_act_213 rfl ?_
                                        refine pr_iadd (v := (nI (ac + 1))) tX8_act_214 (nI_add _ _) ?_
                                        refine pr_ias tX8_act_215 ci rfl rfl (by omega) (by decide) ?_
                                        obtain ⟨σ40, eσ40⟩ : ∃ z : pST, z = (pm_ui σ39.1 2 ci (nI (ac + 1)), σ39.2) := ⟨_, rfl⟩
                                        rw [← eσ40]
                                        refine pr_aload_n tX8_act_216 3 rfl ?_
                                        refine pr_geta (j := 2) tX8_act_217 rfl rfl rfl rfl ?_
                                        refine pr_iload_n tX8_act_220 4 rfl ?_
                                        refine pr_ial tX8_act_221 ci rfl rfl (by omega) (by decide) ?_
                                        refine pR_topi (y := (nI (ac + 1))) (by simp [eσ36, eσ37, eσ38, eσ39, eσ40, pm_ui, pm_uj, upd, vp_updL]) ?_
                                        refine pr_iret tX8_act_222 rfl ?_
                                        rw [if_pos (by grind), eσ40, eσ39, eσ38, eσ37, eσ36]
                                      · skip
                                        exact absurd (by decide) hc154
                                  · skip
                                    refine pr_lload tX8_act_119 7 rfl ?_
                                    refine pr_lconst (v := 1) tX8_act_121 rfl ?_
                                    refine pr_lcmp tX8_act_122 ?_
                                    refine pr_if_lt (pc' := 149) tX8_act_123 rfl (fun hc123 => ?_) (fun hc123 => ?_)
                                    · skip
                                      refine pr_iconst (v := nI 0) tX8_act_149 rfl ?_
                                      refine pr_istore (L' := [(7, .inl (nI 0)), (8, .inl (nI 1)), (0, .inr (.inr 0)), (1, .inl (nI ci)), (2, .inl k), (3, .inl r), (4, .inl s), (5, .inr (.inl v))]) tX8_act_150 (by decide) rfl ?_
                                      refine pr_iload tX8_act_152 0 rfl ?_
                                      refine pr_if_ne (pc' := 159) tX8_act_154 rfl (fun hc154 => ?_) (fun hc154 => ?_)
                                      · skip
                                        exact absurd hc154 (by decide)
                                      · skip
                                        refine pr_iconst (v := -1) tX8_act_157 rfl ?_
                                        refine pr_iret tX8_act_158 rfl ?_
                                        rw [if_neg (by grind)]
                                    · skip
                                      refine pr_lload tX8_act_126 7 rfl ?_
                                      refine pr_ldc2 tX8_act_128 rfl ?_
                                      refine pr_lcmp tX8_act_131 ?_
                                      refine pr_if_gt (pc' := 149) tX8_act_132 rfl (fun hc132 => ?_) (fun hc132 => ?_)
                                      · skip
                                        refine pr_iconst (v := nI 0) tX8_act_149 rfl ?_
                                        refine pr_istore (L' := [(7, .inl (nI 0)), (8, .inl (nI 1)), (0, .inr (.inr 0)), (1, .inl (nI ci)), (2, .inl k), (3, .inl r), (4, .inl s), (5, .inr (.inl v))]) tX8_act_150 (by decide) rfl ?_
                                        refine pr_iload tX8_act_152 0 rfl ?_
                                        refine pr_if_ne (pc' := 159) tX8_act_154 rfl (fun hc154 => ?_) (fun hc154 => ?_)
                                        · skip
                                          exact absurd hc154 (by decide)
                                        · skip
                                          refine pr_iconst (v := -1) tX8_act_157 rfl ?_
                                          refine pr_iret tX8_act_158 rfl ?_
                                          rw [if_neg (by grind)]
                                      · skip
                                        refine pr_goto (pc' := 145) tX8_act_135 rfl ?_
                                        refine pr_iconst (v := nI 1) tX8_act_145 rfl ?_
                                        refine pr_goto (pc' := 150) tX8_act_146 rfl ?_
                                        refine pr_istore (L' := [(7, .inl (nI 1)), (8, .inl (nI 1)), (0, .inr (.inr 0)), (1, .inl (nI ci)), (2, .inl k), (3, .inl r), (4, .inl s), (5, .inr (.inl v))]) tX8_act_150 (by decide) rfl ?_
                                        refine pr_iload tX8_act_152 0 rfl ?_
                                        refine pr_if_ne (pc' := 159) tX8_act_154 rfl (fun hc154 => ?_) (fun hc154 => ?_)
                                        · skip
                                          refine pr_bipush (v := nI 12) tX8_act_159 rfl ?_
                                          refine pr_iload_n tX8_act_161 3 rfl ?_
                                          refine pr_imul (v := (nI (12 * ci))) tX8_act_162 (pk_mul _ _) ?_
                                          refine pr_aload_n tX8_act_163 2 rfl ?_
                                          refine pr_geta (j := 2) tX8_act_164 rfl rfl rfl rfl ?_
                                          refine pr_iload_n tX8_act_167 3 rfl ?_
                                          refine pr_ial tX8_act_168 ci rfl rfl (by omega) (by decide) ?_
                                          refine pR_topi (y := (nI ac)) (by simp [pm_ui, pm_uj, upd, vp_updL, ha]) ?_
                                          refine pr_iadd (v := (nI (12 * ci + ac))) tX8_act_169 (nI_add _ _) ?_
                                          refine pr_istore (L' := [(9, .inl (nI (12 * ci + ac))), (7, .inl (nI 1)), (8, .inl (nI 1)), (0, .inr (.inr 0)), (1, .inl (nI ci)), (2, .inl k), (3, .inl r), (4, .inl s), (5, .inr (.inl v))]) tX8_act_170 (by decide) rfl ?_
                                          refine pr_aload_n tX8_act_172 3 rfl ?_
                                          refine pr_geta (j := 3) tX8_act_173 rfl rfl rfl rfl ?_
                                          refine pr_iload tX8_act_176 0 rfl ?_
                                          refine pr_iload_n tX8_act_178 5 rfl ?_
                                          refine pr_ias tX8_act_179 (12 * ci + ac) rfl rfl (by omega) (by decide) ?_
                                          obtain ⟨σ41, eσ41⟩ : ∃ z : pST, z = (pm_ui σ.1 3 (12 * ci + ac) k, σ.2) := ⟨_, rfl⟩
                                          rw [← eσ41]
                                          refine pr_aload_n tX8_act_180 3 rfl ?_
                                          refine pr_geta (j := 4) tX8_act_181 rfl rfl rfl rfl ?_
                                          refine pr_iload tX8_act_184 0 rfl ?_
                                          refine pr_iload_n tX8_act_186 6 rfl ?_
                                          refine pr_ias tX8_act_187 (12 * ci + ac) rfl rfl (by omega) (by decide) ?_
                                          obtain ⟨σ42, eσ42⟩ : ∃ z : pST, z = (pm_ui σ41.1 4 (12 * ci + ac) r, σ41.2) := ⟨_, rfl⟩
                                          rw [← eσ42]
                                          refine pr_aload_n tX8_act_188 3 rfl ?_
                                          refine pr_geta (j := 5) tX8_act_189 rfl rfl rfl rfl ?_
                                          refine pr_iload tX8_act_192 0 rfl ?_
                                          refine pr_iload tX8_act_194 7 rfl ?_
                                          refine pr_ias tX8_act_196 (12 * ci + ac) rfl rfl (by omega) (by decide) ?_
                                          obtain ⟨σ43, eσ43⟩ : ∃ z : pST, z = (pm_ui σ42.1 5 (12 * ci + ac) s, σ42.2) := ⟨_, rfl⟩
                                          rw [← eσ43]
                                          refine pr_aload_n tX8_act_197 3 rfl ?_
                                          refine pr_geta (j := 6) tX8_act_198 rfl rfl rfl rfl ?_
                                          refine pr_iload tX8_act_201 0 rfl ?_
                                          refine pr_lload tX8_act_203 8 rfl ?_
                                          refine pr_las tX8_act_205 (12 * ci + ac) rfl rfl (by omega) (by decide) ?_
                                          obtain ⟨σ44, eσ44⟩ : ∃ z : pST, z = (σ43.1, pm_uj σ43.2 6 (12 * ci + ac) v) := ⟨_, rfl⟩
                                          rw [← eσ44]
                                          refine pr_aload_n tX8_act_206 3 rfl ?_
                                          refine pr_geta (j := 2) tX8_act_207 rfl rfl rfl rfl ?_
                                          refine pr_iload_n tX8_act_210 4 rfl ?_
                                          refine pr_dup2 tX8_act_211 ⟨rfl, rfl⟩ ?_
                                          refine pr_ial tX8_act_212 ci rfl rfl (by omega) (by decide) ?_
                                          refine pR_topi (y := (nI ac)) (by simp [eσ41, eσ42, eσ43, eσ44, pm_ui, pm_uj, upd, vp_updL, ha]) ?_
                                          refine pr_iconst (v := nI 1) tX8_act_213 rfl ?_
                                          refine pr_iadd (v := (nI (ac + 1))) tX8_act_214 (nI_add _ _) ?_
                                          refine pr_ias tX8_act_215 ci rfl rfl (by omega) (by decide) ?_
                                          obtain ⟨σ45, eσ45⟩ : ∃ z : pST, z = (pm_ui σ44.1 2 ci (nI (ac + 1)), σ44.2) := ⟨_, rfl⟩
                                          rw [← eσ45]
                                          refine pr_aload_n tX8_act_216 3 rfl ?_
                                          refine pr_geta (j := 2) tX8_act_217 rfl rfl rfl rfl ?_
                                          refine pr_iload_n tX8_act_220 4 rfl ?_
                                          refine pr_ial tX8_act_221 ci rfl rfl (by omega) (by decide) ?_
                                          refine pR_topi (y := (nI (ac + 1))) (by simp [eσ41, eσ42, eσ43, eσ44, eσ45, pm_ui, pm_uj, upd, vp_updL]) ?_
                                          refine pr_iret tX8_act_222 rfl ?_
                                          rw [if_pos (by grind), eσ45, eσ44, eσ43, eσ42, eσ41]
                                        · skip
                                          exact absurd (by decide) hc154
  obtain ⟨x, h1, h2⟩ := key
  rw [h1, h2]

set_option maxRecDepth 100000 in
theorem ev_X8_act_out (σ : pST) {n : Nat} (h : σ.1 0 1 = nI n) {c : Int32} (hk : c < 0 ∨ nI n ≤ c) (k r s : Int32) (v : Int64) : kX8_act σ [.inr (.inr 0), .inl c, .inl k, .inl r, .inl s, .inr (.inl v)] = some ((σ, some (.inl (-1)))) := by
  have key : ∃ x, kX8_act σ [.inr (.inr 0), .inl c, .inl k, .inl r, .inl s, .inr (.inl v)] = some x ∧ x = (σ, some (.inl (-1))) := by
    refine pR_met (post := fun x => x = (σ, some (.inl (-1)))) rfl (Nat.le_of_ble_eq_true rfl) ?_
    show pR _ _ _ _ _ _ _ _ 0 [(0, .inr (.inr 0)), (1, .inl c), (2, .inl k), (3, .inl r), (4, .inl s), (5, .inr (.inl v))] [] σ
    refine pr_iload_n tX8_act_0 1 rfl ?_
    refine pr_if_lt (pc' := 37) tX8_act_1 rfl (fun hc1 => ?_) (fun hc1 => ?_)
    · skip
      refine pr_iconst (v := nI 0) tX8_act_37 rfl ?_
      refine pr_istore (L' := [(7, .inl (nI 0)), (0, .inr (.inr 0)), (1, .inl c), (2, .inl k), (3, .inl r), (4, .inl s), (5, .inr (.inl v))]) tX8_act_38 (by decide) rfl ?_
      refine pr_iload_n tX8_act_40 3 rfl ?_
      refine pr_iconst (v := nI 1) tX8_act_41 rfl ?_
      refine pr_ic_lt (pc' := 55) tX8_act_42 rfl (fun hc42 => ?_) (fun hc42 => ?_)
      · skip
        refine pr_iconst (v := nI 0) tX8_act_55 rfl ?_
        refine pr_istore (L' := [(8, .inl (nI 0)), (7, .inl (nI 0)), (0, .inr (.inr 0)), (1, .inl c), (2, .inl k), (3, .inl r), (4, .inl s), (5, .inr (.inl v))]) tX8_act_56 (by decide) rfl ?_
        refine pr_iload tX8_act_58 1 rfl ?_
        refine pr_if_eq (pc' := 100) tX8_act_60 rfl (fun hc60 => ?_) (fun hc60 => ?_)
        · skip
          refine pr_iconst (v := nI 0) tX8_act_100 rfl ?_
          refine pr_istore (L' := [(7, .inl (nI 0)), (8, .inl (nI 0)), (0, .inr (.inr 0)), (1, .inl c), (2, .inl k), (3, .inl r), (4, .inl s), (5, .inr (.inl v))]) tX8_act_101 (by decide) rfl ?_
          refine pr_iload tX8_act_103 0 rfl ?_
          refine pr_if_eq (pc' := 149) tX8_act_105 rfl (fun hc105 => ?_) (fun hc105 => ?_)
          · skip
            refine pr_iconst (v := nI 0) tX8_act_149 rfl ?_
            refine pr_istore (L' := [(7, .inl (nI 0)), (8, .inl (nI 0)), (0, .inr (.inr 0)), (1, .inl c), (2, .inl k), (3, .inl r), (4, .inl s), (5, .inr (.inl v))]) tX8_act_150 (by decide) rfl ?_
            refine pr_iload tX8_act_152 0 rfl ?_
            refine pr_if_ne (pc' := 159) tX8_act_154 rfl (fun hc154 => ?_) (fun hc154 => ?_)
            · skip
              exact absurd hc154 (by decide)
            · skip
              refine pr_iconst (v := -1) tX8_act_157 rfl ?_
              refine pr_iret tX8_act_158 rfl ?_
              rfl
          · skip
            exact absurd (by decide) hc105
        · skip
          exact absurd (by decide) hc60
      · skip
        refine pr_iload_n tX8_act_45 3 rfl ?_
        refine pr_bipush (v := nI 6) tX8_act_46 rfl ?_
        refine pr_ic_gt (pc' := 55) tX8_act_48 rfl (fun hc48 => ?_) (fun hc48 => ?_)
        · skip
          refine pr_iconst (v := nI 0) tX8_act_55 rfl ?_
          refine pr_istore (L' := [(8, .inl (nI 0)), (7, .inl (nI 0)), (0, .inr (.inr 0)), (1, .inl c), (2, .inl k), (3, .inl r), (4, .inl s), (5, .inr (.inl v))]) tX8_act_56 (by decide) rfl ?_
          refine pr_iload tX8_act_58 1 rfl ?_
          refine pr_if_eq (pc' := 100) tX8_act_60 rfl (fun hc60 => ?_) (fun hc60 => ?_)
          · skip
            refine pr_iconst (v := nI 0) tX8_act_100 rfl ?_
            refine pr_istore (L' := [(7, .inl (nI 0)), (8, .inl (nI 0)), (0, .inr (.inr 0)), (1, .inl c), (2, .inl k), (3, .inl r), (4, .inl s), (5, .inr (.inl v))]) tX8_act_101 (by decide) rfl ?_
            refine pr_iload tX8_act_103 0 rfl ?_
            refine pr_if_eq (pc' := 149) tX8_act_105 rfl (fun hc105 => ?_) (fun hc105 => ?_)
            · skip
              refine pr_iconst (v := nI 0) tX8_act_149 rfl ?_
              refine pr_istore (L' := [(7, .inl (nI 0)), (8, .inl (nI 0)), (0, .inr (.inr 0)), (1, .inl c), (2, .inl k), (3, .inl r), (4, .inl s), (5, .inr (.inl v))]) tX8_act_150 (by decide) rfl ?_
              refine pr_iload tX8_act_152 0 rfl ?_
              refine pr_if_ne (pc' := 159) tX8_act_154 rfl (fun hc154 => ?_) (fun hc154 => ?_)
              · skip
                exact absurd hc154 (by decide)
              · skip
                refine pr_iconst (v := -1) tX8_act_157 rfl ?_
                refine pr_iret tX8_act_158 rfl ?_
                rfl
            · skip
              exact absurd (by decide) hc105
          · skip
            exact absurd (by decide) hc60
        · skip
          refine pr_iconst (v := nI 1) tX8_act_51 rfl ?_
          refine pr_goto (pc' := 56) tX8_act_52 rfl ?_
          refine pr_istore (L' := [(8, .inl (nI 1)), (7, .inl (nI 0)), (0, .inr (.inr 0)), (1, .inl c), (2, .inl k), (3, .inl r), (4, .inl s), (5, .inr (.inl v))]) tX8_act_56 (by decide) rfl ?_
          refine pr_iload tX8_act_58 1 rfl ?_
          refine pr_if_eq (pc' := 100) tX8_act_60 rfl (fun hc60 => ?_) (fun hc60 => ?_)
          · skip
            refine pr_iconst (v := nI 0) tX8_act_100 rfl ?_
            refine pr_istore (L' := [(7, .inl (nI 0)), (8, .inl (nI 1)), (0, .inr (.inr 0)), (1, .inl c), (2, .inl k), (3, .inl r), (4, .inl s), (5, .inr (.inl v))]) tX8_act_101 (by decide) rfl ?_
            refine pr_iload tX8_act_103 0 rfl ?_
            refine pr_if_eq (pc' := 149) tX8_act_105 rfl (fun hc105 => ?_) (fun hc105 => ?_)
            · skip
              refine pr_iconst (v := nI 0) tX8_act_149 rfl ?_
              refine pr_istore (L' := [(7, .inl (nI 0)), (8, .inl (nI 1)), (0, .inr (.inr 0)), (1, .inl c), (2, .inl k), (3, .inl r), (4, .inl s), (5, .inr (.inl v))]) tX8_act_150 (by decide) rfl ?_
              refine pr_iload tX8_act_152 0 rfl ?_
              refine pr_if_ne (pc' := 159) tX8_act_154 rfl (fun hc154 => ?_) (fun hc154 => ?_)
              · skip
                exact absurd hc154 (by decide)
              · skip
                refine pr_iconst (v := -1) tX8_act_157 rfl ?_
                refine pr_iret tX8_act_158 rfl ?_
                rfl
            · skip
              exact absurd (by decide) hc105
          · skip
            exact absurd (by decide) hc60
    · skip
      refine pr_iload_n tX8_act_4 1 rfl ?_
      refine pr_aload_n tX8_act_5 0 rfl ?_
      refine pr_get0 tX8_act_6 rfl rfl rfl ?_
      refine pR_topi (y := (nI n)) (by simp [pm_ui, pm_uj, upd, vp_updL, h]) ?_
      refine pr_ic_ge (pc' := 37) tX8_act_9 rfl (fun hc9 => ?_) (fun hc9 => ?_)
      · skip
        refine pr_iconst (v := nI 0) tX8_act_37 rfl ?_
        refine pr_istore (L' := [(7, .inl (nI 0)), (0, .inr (.inr 0)), (1, .inl c), (2, .inl k), (3, .inl r), (4, .inl s), (5, .inr (.inl v))]) tX8_act_38 (by decide) rfl ?_
        refine pr_iload_n tX8_act_40 3 rfl ?_
        refine pr_iconst (v := nI 1) tX8_act_41 rfl ?_
        refine pr_ic_lt (pc' := 55) tX8_act_42 rfl (fun hc42 => ?_) (fun hc42 => ?_)
        · skip
          refine pr_iconst (v := nI 0) tX8_act_55 rfl ?_
          refine pr_istore (L' := [(8, .inl (nI 0)), (7, .inl (nI 0)), (0, .inr (.inr 0)), (1, .inl c), (2, .inl k), (3, .inl r), (4, .inl s), (5, .inr (.inl v))]) tX8_act_56 (by decide) rfl ?_
          refine pr_iload tX8_act_58 1 rfl ?_
          refine pr_if_eq (pc' := 100) tX8_act_60 rfl (fun hc60 => ?_) (fun hc60 => ?_)
          · skip
            refine pr_iconst (v := nI 0) tX8_act_100 rfl ?_
            refine pr_istore (L' := [(7, .inl (nI 0)), (8, .inl (nI 0)), (0, .inr (.inr 0)), (1, .inl c), (2, .inl k), (3, .inl r), (4, .inl s), (5, .inr (.inl v))]) tX8_act_101 (by decide) rfl ?_
            refine pr_iload tX8_act_103 0 rfl ?_
            refine pr_if_eq (pc' := 149) tX8_act_105 rfl (fun hc105 => ?_) (fun hc105 => ?_)
            · skip
              refine pr_iconst (v := nI 0) tX8_act_149 rfl ?_
              refine pr_istore (L' := [(7, .inl (nI 0)), (8, .inl (nI 0)), (0, .inr (.inr 0)), (1, .inl c), (2, .inl k), (3, .inl r), (4, .inl s), (5, .inr (.inl v))]) tX8_act_150 (by decide) rfl ?_
              refine pr_iload tX8_act_152 0 rfl ?_
              refine pr_if_ne (pc' := 159) tX8_act_154 rfl (fun hc154 => ?_) (fun hc154 => ?_)
              · skip
                exact absurd hc154 (by decide)
              · skip
                refine pr_iconst (v := -1) tX8_act_157 rfl ?_
                refine pr_iret tX8_act_158 rfl ?_
                rfl
            · skip
              exact absurd (by decide) hc105
          · skip
            exact absurd (by decide) hc60
        · skip
          refine pr_iload_n tX8_act_45 3 rfl ?_
          refine pr_bipush (v := nI 6) tX8_act_46 rfl ?_
          refine pr_ic_gt (pc' := 55) tX8_act_48 rfl (fun hc48 => ?_) (fun hc48 => ?_)
          · skip
            refine pr_iconst (v := nI 0) tX8_act_55 rfl ?_
            refine pr_istore (L' := [(8, .inl (nI 0)), (7, .inl (nI 0)), (0, .inr (.inr 0)), (1, .inl c), (2, .inl k), (3, .inl r), (4, .inl s), (5, .inr (.inl v))]) tX8_act_56 (by decide) rfl ?_
            refine pr_iload tX8_act_58 1 rfl ?_
            refine pr_if_eq (pc' := 100) tX8_act_60 rfl (fun hc60 => ?_) (fun hc60 => ?_)
            · skip
              refine pr_iconst (v := nI 0) tX8_act_100 rfl ?_
              refine pr_istore (L' := [(7, .inl (nI 0)), (8, .inl (nI 0)), (0, .inr (.inr 0)), (1, .inl c), (2, .inl k), (3, .inl r), (4, .inl s), (5, .inr (.inl v))]) tX8_act_101 (by decide) rfl ?_
              refine pr_iload tX8_act_103 0 rfl ?_
              refine pr_if_eq (pc' := 149) tX8_act_105 rfl (fun hc105 => ?_) (fun hc105 => ?_)
              · skip
                refine pr_iconst (v := nI 0) tX8_act_149 rfl ?_
                refine pr_istore (L' := [(7, .inl (nI 0)), (8, .inl (nI 0)), (0, .inr (.inr 0)), (1, .inl c), (2, .inl k), (3, .inl r), (4, .inl s), (5, .inr (.inl v))]) tX8_act_150 (by decide) rfl ?_
                refine pr_iload tX8_act_152 0 rfl ?_
                refine pr_if_ne (pc' := 159) tX8_act_154 rfl (fun hc154 => ?_) (fun hc154 => ?_)
                · skip
                  exact absurd hc154 (by decide)
                · skip
                  refine pr_iconst (v := -1) tX8_act_157 rfl ?_
                  refine pr_iret tX8_act_158 rfl ?_
                  rfl
              · skip
                exact absurd (by decide) hc105
            · skip
              exact absurd (by decide) hc60
          · skip
            refine pr_iconst (v := nI 1) tX8_act_51 rfl ?_
            refine pr_goto (pc' := 56) tX8_act_52 rfl ?_
            refine pr_istore (L' := [(8, .inl (nI 1)), (7, .inl (nI 0)), (0, .inr (.inr 0)), (1, .inl c), (2, .inl k), (3, .inl r), (4, .inl s), (5, .inr (.inl v))]) tX8_act_56 (by decide) rfl ?_
            refine pr_iload tX8_act_58 1 rfl ?_
            refine pr_if_eq (pc' := 100) tX8_act_60 rfl (fun hc60 => ?_) (fun hc60 => ?_)
            · skip
              refine pr_iconst (v := nI 0) tX8_act_100 rfl ?_
              refine pr_istore (L' := [(7, .inl (nI 0)), (8, .inl (nI 1)), (0, .inr (.inr 0)), (1, .inl c), (2, .inl k), (3, .inl r), (4, .inl s), (5, .inr (.inl v))]) tX8_act_101 (by decide) rfl ?_
              refine pr_iload tX8_act_103 0 rfl ?_
              refine pr_if_eq (pc' := 149) tX8_act_105 rfl (fun hc105 => ?_) (fun hc105 => ?_)
              · skip
                refine pr_iconst (v := nI 0) tX8_act_149 rfl ?_
                refine pr_istore (L' := [(7, .inl (nI 0)), (8, .inl (nI 1)), (0, .inr (.inr 0)), (1, .inl c), (2, .inl k), (3, .inl r), (4, .inl s), (5, .inr (.inl v))]) tX8_act_150 (by decide) rfl ?_
                refine pr_iload tX8_act_152 0 rfl ?_
                refine pr_if_ne (pc' := 159) tX8_act_154 rfl (fun hc154 => ?_) (fun hc154 => ?_)
                · skip
                  exact absurd hc154 (by decide)
                · skip
                  refine pr_iconst (v := -1) tX8_act_157 rfl ?_
                  refine pr_iret tX8_act_158 rfl ?_
                  rfl
              · skip
                exact absurd (by decide) hc105
            · skip
              exact absurd (by decide) hc60
      · skip
        exact absurd hk (fun z => z.elim hc1 hc9)
  obtain ⟨x, h1, h2⟩ := key
  rw [h1, h2]
