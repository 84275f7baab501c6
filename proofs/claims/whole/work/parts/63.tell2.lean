theorem ixw {x : Int32} {n : Nat} (h0 : ¬ x < 0) (h : ¬ nI n ≤ x) (hn : n < 2 ^ 31) : x = nI x.toNatClampNeg ∧ x.toNatClampNeg < n := by
  obtain ⟨j, hj, e⟩ := ((pk_ix x hn).resolve_left h0).resolve_left h
  have e2 : x.toNatClampNeg = j := by rw [e]; exact nI_clamp (by omega)
  exact ⟨by rw [e2]; exact e, by omega⟩

set_option maxRecDepth 100000 in
theorem ev_X3_tell (σ : pST) (i w : Int32) : kX3_tell σ [.inr (.inr 144), .inl i, .inl w] = some ((σ, some (.inl (if ¬ i < 0 ∧ ¬ σ.1 144 0 ≤ i ∧ ¬ nI 200 ≤ i ∧ ¬ w < 0 ∧ w ≤ nI 1 then (if w = 0 then σ.1 145 i.toNatClampNeg else σ.1 146 i.toNatClampNeg) else -2)))) := by
  have key : ∃ x, kX3_tell σ [.inr (.inr 144), .inl i, .inl w] = some x ∧ x = (σ, some (.inl (if ¬ i < 0 ∧ ¬ σ.1 144 0 ≤ i ∧ ¬ nI 200 ≤ i ∧ ¬ w < 0 ∧ w ≤ nI 1 then (if w = 0 then σ.1 145 i.toNatClampNeg else σ.1 146 i.toNatClampNeg) else -2))) := by
    refine pR_met (post := fun x => x = (σ, some (.inl (if ¬ i < 0 ∧ ¬ σ.1 144 0 ≤ i ∧ ¬ nI 200 ≤ i ∧ ¬ w < 0 ∧ w ≤ nI 1 then (if w = 0 then σ.1 145 i.toNatClampNeg else σ.1 146 i.toNatClampNeg) else -2)))) rfl (Nat.le_of_ble_eq_true rfl) ?_
    show pR _ _ _ _ _ _ _ _ 0 [(0, .inr (.inr 144)), (1, .inl i), (2, .inl w)] [] σ
    refine pr_iload_n tX3_tell_0 1 rfl ?_
    refine pr_if_lt (pc' := 28) tX3_tell_1 rfl (fun hc1 => ?_) (fun hc1 => ?_)
    · skip
      refine pr_bipush (v := -2) tX3_tell_28 rfl ?_
      refine pr_iret tX3_tell_30 rfl ?_
      rw [if_neg (by grind)]
    · skip
      refine pr_iload_n tX3_tell_4 1 rfl ?_
      refine pr_aload_n tX3_tell_5 0 rfl ?_
      refine pr_get0 tX3_tell_6 rfl rfl rfl ?_
      refine pr_ic_ge (pc' := 28) tX3_tell_9 rfl (fun hc9 => ?_) (fun hc9 => ?_)
      · skip
        refine pr_bipush (v := -2) tX3_tell_28 rfl ?_
        refine pr_iret tX3_tell_30 rfl ?_
        rw [if_neg (by grind)]
      · skip
        refine pr_iload_n tX3_tell_12 1 rfl ?_
        refine pr_sipush (v := nI 200) tX3_tell_13 rfl ?_
        refine pr_ic_ge (pc' := 28) tX3_tell_16 rfl (fun hc16 => ?_) (fun hc16 => ?_)
        · skip
          refine pr_bipush (v := -2) tX3_tell_28 rfl ?_
          refine pr_iret tX3_tell_30 rfl ?_
          rw [if_neg (by grind)]
        · skip
          refine pr_iload_n tX3_tell_19 2 rfl ?_
          refine pr_if_lt (pc' := 28) tX3_tell_20 rfl (fun hc20 => ?_) (fun hc20 => ?_)
          · skip
            refine pr_bipush (v := -2) tX3_tell_28 rfl ?_
            refine pr_iret tX3_tell_30 rfl ?_
            rw [if_neg (by grind)]
          · skip
            refine pr_iload_n tX3_tell_23 2 rfl ?_
            refine pr_iconst (v := nI 1) tX3_tell_24 rfl ?_
            refine pr_ic_le (pc' := 31) tX3_tell_25 rfl (fun hc25 => ?_) (fun hc25 => ?_)
            · skip
              refine pr_iload_n tX3_tell_31 2 rfl ?_
              refine pr_if_ne (pc' := 44) tX3_tell_32 rfl (fun hc32 => ?_) (fun hc32 => ?_)
              · skip
                refine pr_aload_n tX3_tell_44 0 rfl ?_
                refine pr_geta (j := 146) tX3_tell_45 rfl rfl rfl rfl ?_
                refine pr_iload_n tX3_tell_48 1 rfl ?_
                refine pr_ial tX3_tell_49 i.toNatClampNeg rfl (ixw hc1 hc16 (by decide)).1 ((ixw hc1 hc16 (by decide)).2) (by decide) ?_
                refine pr_iret tX3_tell_50 rfl ?_
                rw [if_pos (by grind), if_neg (by grind)]
              · skip
                refine pr_aload_n tX3_tell_35 0 rfl ?_
                refine pr_geta (j := 145) tX3_tell_36 rfl rfl rfl rfl ?_
                refine pr_iload_n tX3_tell_39 1 rfl ?_
                refine pr_ial tX3_tell_40 i.toNatClampNeg rfl (ixw hc1 hc16 (by decide)).1 ((ixw hc1 hc16 (by decide)).2) (by decide) ?_
                refine pr_goto (pc' := 50) tX3_tell_41 rfl ?_
                refine pr_iret tX3_tell_50 rfl ?_
                rw [if_pos (by grind), if_pos (by grind)]
            · skip
              refine pr_bipush (v := -2) tX3_tell_28 rfl ?_
              refine pr_iret tX3_tell_30 rfl ?_
              rw [if_neg (by grind)]
  obtain ⟨x, h1, h2⟩ := key
  rw [h1, h2]

set_option maxRecDepth 100000 in
theorem ev_X8_conflict (σ : pST) (i w : Int32) : kX8_conflict σ [.inr (.inr 0), .inl i, .inl w] = some ((σ, some (.inl (if ¬ i < 0 ∧ ¬ σ.1 0 47 ≤ i ∧ ¬ nI 200 ≤ i ∧ ¬ w < 0 ∧ w ≤ nI 1 then (if w = 0 then σ.1 32 i.toNatClampNeg else σ.1 33 i.toNatClampNeg) else -2)))) := by
  have key : ∃ x, kX8_conflict σ [.inr (.inr 0), .inl i, .inl w] = some x ∧ x = (σ, some (.inl (if ¬ i < 0 ∧ ¬ σ.1 0 47 ≤ i ∧ ¬ nI 200 ≤ i ∧ ¬ w < 0 ∧ w ≤ nI 1 then (if w = 0 then σ.1 32 i.toNatClampNeg else σ.1 33 i.toNatClampNeg) else -2))) := by
    refine pR_met (post := fun x => x = (σ, some (.inl (if ¬ i < 0 ∧ ¬ σ.1 0 47 ≤ i ∧ ¬ nI 200 ≤ i ∧ ¬ w < 0 ∧ w ≤ nI 1 then (if w = 0 then σ.1 32 i.toNatClampNeg else σ.1 33 i.toNatClampNeg) else -2)))) rfl (Nat.le_of_ble_eq_true rfl) ?_
    show pR _ _ _ _ _ _ _ _ 0 [(0, .inr (.inr 0)), (1, .inl i), (2, .inl w)] [] σ
    refine pr_iload_n tX8_conflict_0 1 rfl ?_
    refine pr_if_lt (pc' := 28) tX8_conflict_1 rfl (fun hc1 => ?_) (fun hc1 => ?_)
    · skip
      refine pr_bipush (v := -2) tX8_conflict_28 rfl ?_
      refine pr_iret tX8_conflict_30 rfl ?_
      rw [if_neg (by grind)]
    · skip
      refine pr_iload_n tX8_conflict_4 1 rfl ?_
      refine pr_aload_n tX8_conflict_5 0 rfl ?_
      refine pr_get0 tX8_conflict_6 rfl rfl rfl ?_
      refine pr_ic_ge (pc' := 28) tX8_conflict_9 rfl (fun hc9 => ?_) (fun hc9 => ?_)
      · skip
        refine pr_bipush (v := -2) tX8_conflict_28 rfl ?_
        refine pr_iret tX8_conflict_30 rfl ?_
        rw [if_neg (by grind)]
      · skip
        refine pr_iload_n tX8_conflict_12 1 rfl ?_
        refine pr_sipush (v := nI 200) tX8_conflict_13 rfl ?_
        refine pr_ic_ge (pc' := 28) tX8_conflict_16 rfl (fun hc16 => ?_) (fun hc16 => ?_)
        · skip
          refine pr_bipush (v := -2) tX8_conflict_28 rfl ?_
          refine pr_iret tX8_conflict_30 rfl ?_
          rw [if_neg (by grind)]
        · skip
          refine pr_iload_n tX8_conflict_19 2 rfl ?_
          refine pr_if_lt (pc' := 28) tX8_conflict_20 rfl (fun hc20 => ?_) (fun hc20 => ?_)
          · skip
            refine pr_bipush (v := -2) tX8_conflict_28 rfl ?_
            refine pr_iret tX8_conflict_30 rfl ?_
            rw [if_neg (by grind)]
          · skip
            refine pr_iload_n tX8_conflict_23 2 rfl ?_
            refine pr_iconst (v := nI 1) tX8_conflict_24 rfl ?_
            refine pr_ic_le (pc' := 31) tX8_conflict_25 rfl (fun hc25 => ?_) (fun hc25 => ?_)
            · skip
              refine pr_iload_n tX8_conflict_31 2 rfl ?_
              refine pr_if_ne (pc' := 44) tX8_conflict_32 rfl (fun hc32 => ?_) (fun hc32 => ?_)
              · skip
                refine pr_aload_n tX8_conflict_44 0 rfl ?_
                refine pr_geta (j := 33) tX8_conflict_45 rfl rfl rfl rfl ?_
                refine pr_iload_n tX8_conflict_48 1 rfl ?_
                refine pr_ial tX8_conflict_49 i.toNatClampNeg rfl (ixw hc1 hc16 (by decide)).1 ((ixw hc1 hc16 (by decide)).2) (by decide) ?_
                refine pr_iret tX8_conflict_50 rfl ?_
                rw [if_pos (by grind), if_neg (by grind)]
              · skip
                refine pr_aload_n tX8_conflict_35 0 rfl ?_
                refine pr_geta (j := 32) tX8_conflict_36 rfl rfl rfl rfl ?_
                refine pr_iload_n tX8_conflict_39 1 rfl ?_
                refine pr_ial tX8_conflict_40 i.toNatClampNeg rfl (ixw hc1 hc16 (by decide)).1 ((ixw hc1 hc16 (by decide)).2) (by decide) ?_
                refine pr_goto (pc' := 50) tX8_conflict_41 rfl ?_
                refine pr_iret tX8_conflict_50 rfl ?_
                rw [if_pos (by grind), if_pos (by grind)]
            · skip
              refine pr_bipush (v := -2) tX8_conflict_28 rfl ?_
              refine pr_iret tX8_conflict_30 rfl ?_
              rw [if_neg (by grind)]
  obtain ⟨x, h1, h2⟩ := key
  rw [h1, h2]

set_option maxRecDepth 100000 in
theorem ev_X7_conflict (σ : pST) (i w : Int32) : kX7_conflict σ [.inr (.inr 0), .inl i, .inl w] = some ((σ, some (.inl (if ¬ i < 0 ∧ ¬ σ.1 144 0 ≤ i ∧ ¬ nI 200 ≤ i ∧ ¬ w < 0 ∧ w ≤ nI 1 then (if w = 0 then σ.1 145 i.toNatClampNeg else σ.1 146 i.toNatClampNeg) else -2)))) := by
  have key : ∃ x, kX7_conflict σ [.inr (.inr 0), .inl i, .inl w] = some x ∧ x = (σ, some (.inl (if ¬ i < 0 ∧ ¬ σ.1 144 0 ≤ i ∧ ¬ nI 200 ≤ i ∧ ¬ w < 0 ∧ w ≤ nI 1 then (if w = 0 then σ.1 145 i.toNatClampNeg else σ.1 146 i.toNatClampNeg) else -2))) := by
    refine pR_met (post := fun x => x = (σ, some (.inl (if ¬ i < 0 ∧ ¬ σ.1 144 0 ≤ i ∧ ¬ nI 200 ≤ i ∧ ¬ w < 0 ∧ w ≤ nI 1 then (if w = 0 then σ.1 145 i.toNatClampNeg else σ.1 146 i.toNatClampNeg) else -2)))) rfl (Nat.le_of_ble_eq_true rfl) ?_
    show pR _ _ _ _ _ _ _ _ 0 [(0, .inr (.inr 0)), (1, .inl i), (2, .inl w)] [] σ
    refine pr_aload_n tX7_conflict_0 0 rfl ?_
    refine pr_geta (j := 8) tX7_conflict_1 rfl rfl rfl rfl ?_
    refine pr_geta (j := 144) tX7_conflict_4 rfl rfl rfl rfl ?_
    refine pr_iload_n tX7_conflict_7 1 rfl ?_
    refine pr_iload_n tX7_conflict_8 2 rfl ?_
    refine pr_callV tX7_conflict_9 rfl ⟨Nat.le_of_ble_eq_true rfl, Nat.le_of_ble_eq_true rfl, rfl⟩ (ev_X3_tell σ i w) ?_
    refine pR_eq (st' := [.inl (if ¬ i < 0 ∧ ¬ σ.1 144 0 ≤ i ∧ ¬ nI 200 ≤ i ∧ ¬ w < 0 ∧ w ≤ nI 1 then (if w = 0 then σ.1 145 i.toNatClampNeg else σ.1 146 i.toNatClampNeg) else -2)]) rfl rfl ?_
    refine pr_iret tX7_conflict_12 rfl ?_
    rfl
  obtain ⟨x, h1, h2⟩ := key
  rw [h1, h2]

set_option maxRecDepth 100000 in
theorem ev_X7_conflicts (σ : pST) : kX7_conflicts σ [.inr (.inr 0)] = some ((σ, some (.inl (σ.1 144 0)))) := by
  have key : ∃ x, kX7_conflicts σ [.inr (.inr 0)] = some x ∧ x = (σ, some (.inl (σ.1 144 0))) := by
    refine pR_met (post := fun x => x = (σ, some (.inl (σ.1 144 0)))) rfl (Nat.le_of_ble_eq_true rfl) ?_
    show pR _ _ _ _ _ _ _ _ 0 [(0, .inr (.inr 0))] [] σ
    refine pr_aload_n tX7_conflicts_0 0 rfl ?_
    refine pr_geta (j := 8) tX7_conflicts_1 rfl rfl rfl rfl ?_
    refine pr_geta (j := 144) tX7_conflicts_4 rfl rfl rfl rfl ?_
    refine pr_get0 tX7_conflicts_7 rfl rfl rfl ?_
    refine pr_iret tX7_conflicts_10 rfl ?_
    rfl
  obtain ⟨x, h1, h2⟩ := key
  rw [h1, h2]

set_option maxRecDepth 100000 in
theorem ev_X8_conflicts (σ : pST) : kX8_conflicts σ [.inr (.inr 0)] = some ((σ, some (.inl (σ.1 0 47)))) := by
  have key : ∃ x, kX8_conflicts σ [.inr (.inr 0)] = some x ∧ x = (σ, some (.inl (σ.1 0 47))) := by
    refine pR_met (post := fun x => x = (σ, some (.inl (σ.1 0 47)))) rfl (Nat.le_of_ble_eq_true rfl) ?_
    show pR _ _ _ _ _ _ _ _ 0 [(0, .inr (.inr 0))] [] σ
    refine pr_aload_n tX8_conflicts_0 0 rfl ?_
    refine pr_get0 tX8_conflicts_1 rfl rfl rfl ?_
    refine pr_iret tX8_conflicts_4 rfl ?_
    rfl
  obtain ⟨x, h1, h2⟩ := key
  rw [h1, h2]

set_option maxRecDepth 100000 in
theorem ev_X8_events (σ : pST) : kX8_events σ [.inr (.inr 0)] = some ((σ, some (.inl (σ.1 0 50)))) := by
  have key : ∃ x, kX8_events σ [.inr (.inr 0)] = some x ∧ x = (σ, some (.inl (σ.1 0 50))) := by
    refine pR_met (post := fun x => x = (σ, some (.inl (σ.1 0 50)))) rfl (Nat.le_of_ble_eq_true rfl) ?_
    show pR _ _ _ _ _ _ _ _ 0 [(0, .inr (.inr 0))] [] σ
    refine pr_aload_n tX8_events_0 0 rfl ?_
    refine pr_get0 tX8_events_1 rfl rfl rfl ?_
    refine pr_iret tX8_events_4 rfl ?_
    rfl
  obtain ⟨x, h1, h2⟩ := key
  rw [h1, h2]

set_option maxRecDepth 100000 in
theorem ev_X7_events (σ : pST) {n : Nat} (hn : n ≤ 16) (h : σ.1 9 2 = nI n) : kX7_events σ [.inr (.inr 0)] = some ((σ, some (.inl (sumA (fun c => σ.1 (9 + 7 + 8 * c) 6) n)))) := by
  have key : ∃ x, kX7_events σ [.inr (.inr 0)] = some x ∧ x = (σ, some (.inl (sumA (fun c => σ.1 (9 + 7 + 8 * c) 6) n))) := by
    refine pR_met (post := fun x => x = (σ, some (.inl (sumA (fun c => σ.1 (9 + 7 + 8 * c) 6) n)))) rfl (Nat.le_of_ble_eq_true rfl) ?_
    show pR _ _ _ _ _ _ _ _ 0 [(0, .inr (.inr 0))] [] σ
    refine pr_aload_n tX7_events_0 0 rfl ?_
    refine pr_geta (j := 8) tX7_events_1 rfl rfl rfl rfl ?_
    refine pr_geta (j := 9) tX7_events_4 rfl rfl rfl rfl ?_
    refine pr_callV tX7_events_7 rfl ⟨Nat.le_of_ble_eq_true rfl, Nat.le_of_ble_eq_true rfl, rfl⟩ (ev_X1_countEvents σ (b := 9) (Or.inl rfl) hn h) ?_
    refine pR_eq (st' := [.inl (sumA (fun c => σ.1 (9 + 7 + 8 * c) 6) n)]) rfl rfl ?_
    refine pr_iret tX7_events_10 rfl ?_
    rfl
  obtain ⟨x, h1, h2⟩ := key
  rw [h1, h2]

set_option maxRecDepth 100000 in
theorem ev_X8_told_0 (σ : pST) : kX8_told σ [.inr (.inr 0), .inl (nI 0)] = some ((σ, some (.inl (σ.1 0 40)))) := by
  have key : ∃ x, kX8_told σ [.inr (.inr 0), .inl (nI 0)] = some x ∧ x = (σ, some (.inl (σ.1 0 40))) := by
    refine pR_met (post := fun x => x = (σ, some (.inl (σ.1 0 40)))) rfl (Nat.le_of_ble_eq_true rfl) ?_
    show pR _ _ _ _ _ _ _ _ 0 [(0, .inr (.inr 0)), (1, .inl (nI 0))] [] σ
    refine pr_iload_n tX8_told_0 1 rfl ?_
    refine pr_tsI (off := 47) (pc' := 48) tX8_told_1 (by decide) rfl rfl ?_
    refine pr_aload_n tX8_told_48 0 rfl ?_
    refine pr_get0 tX8_told_49 rfl rfl rfl ?_
    refine pr_iret tX8_told_52 rfl ?_
    rfl
  obtain ⟨x, h1, h2⟩ := key
  rw [h1, h2]

set_option maxRecDepth 100000 in
theorem ev_X6_tell_0 (σ : pST) : kX6_tell σ [.inr (.inr 8), .inl (nI 0)] = some ((σ, some (.inl (σ.1 8 2)))) := by
  have key : ∃ x, kX6_tell σ [.inr (.inr 8), .inl (nI 0)] = some x ∧ x = (σ, some (.inl (σ.1 8 2))) := by
    refine pR_met (post := fun x => x = (σ, some (.inl (σ.1 8 2)))) rfl (Nat.le_of_ble_eq_true rfl) ?_
    show pR _ _ _ _ _ _ _ _ 0 [(0, .inr (.inr 8)), (1, .inl (nI 0))] [] σ
    refine pr_iload_n tX6_tell_0 1 rfl ?_
    refine pr_tsI (off := 47) (pc' := 48) tX6_tell_1 (by decide) rfl rfl ?_
    refine pr_aload_n tX6_tell_48 0 rfl ?_
    refine pr_get0 tX6_tell_49 rfl rfl rfl ?_
    refine pr_iret tX6_tell_52 rfl ?_
    rfl
  obtain ⟨x, h1, h2⟩ := key
  rw [h1, h2]

set_option maxRecDepth 100000 in
theorem ev_X7_told_0 (σ : pST) : kX7_told σ [.inr (.inr 0), .inl (nI 0)] = some ((σ, some (.inl (σ.1 8 2)))) := by
  have key : ∃ x, kX7_told σ [.inr (.inr 0), .inl (nI 0)] = some x ∧ x = (σ, some (.inl (σ.1 8 2))) := by
    refine pR_met (post := fun x => x = (σ, some (.inl (σ.1 8 2)))) rfl (Nat.le_of_ble_eq_true rfl) ?_
    show pR _ _ _ _ _ _ _ _ 0 [(0, .inr (.inr 0)), (1, .inl (nI 0))] [] σ
    refine pr_aload_n tX7_told_0 0 rfl ?_
    refine pr_geta (j := 8) tX7_told_1 rfl rfl rfl rfl ?_
    refine pr_iload_n tX7_told_4 1 rfl ?_
    refine pr_callV tX7_told_5 rfl ⟨Nat.le_of_ble_eq_true rfl, Nat.le_of_ble_eq_true rfl, rfl⟩ (ev_X6_tell_0 σ) ?_
    refine pR_eq (st' := [.inl (σ.1 8 2)]) rfl rfl ?_
    refine pr_iret tX7_told_8 rfl ?_
    rfl
  obtain ⟨x, h1, h2⟩ := key
  rw [h1, h2]

set_option maxRecDepth 100000 in
theorem ev_X8_told_1 (σ : pST) : kX8_told σ [.inr (.inr 0), .inl (nI 1)] = some ((σ, some (.inl (if σ.1 0 41 = 0 then 0 else 1)))) := by
  have key : ∃ x, kX8_told σ [.inr (.inr 0), .inl (nI 1)] = some x ∧ x = (σ, some (.inl (if σ.1 0 41 = 0 then 0 else 1))) := by
    refine pR_met (post := fun x => x = (σ, some (.inl (if σ.1 0 41 = 0 then 0 else 1)))) rfl (Nat.le_of_ble_eq_true rfl) ?_
    show pR _ _ _ _ _ _ _ _ 0 [(0, .inr (.inr 0)), (1, .inl (nI 1))] [] σ
    refine pr_iload_n tX8_told_0 1 rfl ?_
    refine pr_tsI (off := 52) (pc' := 53) tX8_told_1 (by decide) rfl rfl ?_
    refine pr_aload_n tX8_told_53 0 rfl ?_
    refine pr_get1 tX8_told_54 rfl rfl rfl ?_
    refine pr_if_eq (pc' := 64) tX8_told_57 rfl (fun hc57 => ?_) (fun hc57 => ?_)
    · skip
      refine pr_iconst (v := nI 0) tX8_told_64 rfl ?_
      refine pr_iret tX8_told_65 rfl ?_
      first | (rw [if_pos (by grind)]; rfl) | (rw [if_neg (by grind)]; rfl)
    · skip
      refine pr_iconst (v := nI 1) tX8_told_60 rfl ?_
      refine pr_goto (pc' := 65) tX8_told_61 rfl ?_
      refine pr_iret tX8_told_65 rfl ?_
      first | (rw [if_pos (by grind)]; rfl) | (rw [if_neg (by grind)]; rfl)
  obtain ⟨x, h1, h2⟩ := key
  rw [h1, h2]

set_option maxRecDepth 100000 in
theorem ev_X6_tell_1 (σ : pST) : kX6_tell σ [.inr (.inr 8), .inl (nI 1)] = some ((σ, some (.inl (if σ.1 8 6 = 0 then 0 else 1)))) := by
  have key : ∃ x, kX6_tell σ [.inr (.inr 8), .inl (nI 1)] = some x ∧ x = (σ, some (.inl (if σ.1 8 6 = 0 then 0 else 1))) := by
    refine pR_met (post := fun x => x = (σ, some (.inl (if σ.1 8 6 = 0 then 0 else 1)))) rfl (Nat.le_of_ble_eq_true rfl) ?_
    show pR _ _ _ _ _ _ _ _ 0 [(0, .inr (.inr 8)), (1, .inl (nI 1))] [] σ
    refine pr_iload_n tX6_tell_0 1 rfl ?_
    refine pr_tsI (off := 52) (pc' := 53) tX6_tell_1 (by decide) rfl rfl ?_
    refine pr_aload_n tX6_tell_53 0 rfl ?_
    refine pr_get1 tX6_tell_54 rfl rfl rfl ?_
    refine pr_if_eq (pc' := 64) tX6_tell_57 rfl (fun hc57 => ?_) (fun hc57 => ?_)
    · skip
      refine pr_iconst (v := nI 0) tX6_tell_64 rfl ?_
      refine pr_iret tX6_tell_65 rfl ?_
      first | (rw [if_pos (by grind)]; rfl) | (rw [if_neg (by grind)]; rfl)
    · skip
      refine pr_iconst (v := nI 1) tX6_tell_60 rfl ?_
      refine pr_goto (pc' := 65) tX6_tell_61 rfl ?_
      refine pr_iret tX6_tell_65 rfl ?_
      first | (rw [if_pos (by grind)]; rfl) | (rw [if_neg (by grind)]; rfl)
  obtain ⟨x, h1, h2⟩ := key
  rw [h1, h2]

set_option maxRecDepth 100000 in
theorem ev_X7_told_1 (σ : pST) : kX7_told σ [.inr (.inr 0), .inl (nI 1)] = some ((σ, some (.inl (if σ.1 8 6 = 0 then 0 else 1)))) := by
  have key : ∃ x, kX7_told σ [.inr (.inr 0), .inl (nI 1)] = some x ∧ x = (σ, some (.inl (if σ.1 8 6 = 0 then 0 else 1))) := by
    refine pR_met (post := fun x => x = (σ, some (.inl (if σ.1 8 6 = 0 then 0 else 1)))) rfl (Nat.le_of_ble_eq_true rfl) ?_
    show pR _ _ _ _ _ _ _ _ 0 [(0, .inr (.inr 0)), (1, .inl (nI 1))] [] σ
    refine pr_aload_n tX7_told_0 0 rfl ?_
    refine pr_geta (j := 8) tX7_told_1 rfl rfl rfl rfl ?_
    refine pr_iload_n tX7_told_4 1 rfl ?_
    refine pr_callV tX7_told_5 rfl ⟨Nat.le_of_ble_eq_true rfl, Nat.le_of_ble_eq_true rfl, rfl⟩ (ev_X6_tell_1 σ) ?_
    refine pR_eq (st' := [.inl (if σ.1 8 6 = 0 then 0 else 1)]) rfl rfl ?_
    refine pr_iret tX7_told_8 rfl ?_
    rfl
  obtain ⟨x, h1, h2⟩ := key
  rw [h1, h2]

set_option maxRecDepth 100000 in
theorem ev_X8_told_2 (σ : pST) : kX8_told σ [.inr (.inr 0), .inl (nI 2)] = some ((σ, some (.inl (σ.1 0 42)))) := by
  have key : ∃ x, kX8_told σ [.inr (.inr 0), .inl (nI 2)] = some x ∧ x = (σ, some (.inl (σ.1 0 42))) := by
    refine pR_met (post := fun x => x = (σ, some (.inl (σ.1 0 42)))) rfl (Nat.le_of_ble_eq_true rfl) ?_
    show pR _ _ _ _ _ _ _ _ 0 [(0, .inr (.inr 0)), (1, .inl (nI 2))] [] σ
    refine pr_iload_n tX8_told_0 1 rfl ?_
    refine pr_tsI (off := 65) (pc' := 66) tX8_told_1 (by decide) rfl rfl ?_
    refine pr_aload_n tX8_told_66 0 rfl ?_
    refine pr_get0 tX8_told_67 rfl rfl rfl ?_
    refine pr_iret tX8_told_70 rfl ?_
    rfl
  obtain ⟨x, h1, h2⟩ := key
  rw [h1, h2]

set_option maxRecDepth 100000 in
theorem ev_X6_tell_2 (σ : pST) : kX6_tell σ [.inr (.inr 8), .inl (nI 2)] = some ((σ, some (.inl (σ.1 8 3)))) := by
  have key : ∃ x, kX6_tell σ [.inr (.inr 8), .inl (nI 2)] = some x ∧ x = (σ, some (.inl (σ.1 8 3))) := by
    refine pR_met (post := fun x => x = (σ, some (.inl (σ.1 8 3)))) rfl (Nat.le_of_ble_eq_true rfl) ?_
    show pR _ _ _ _ _ _ _ _ 0 [(0, .inr (.inr 8)), (1, .inl (nI 2))] [] σ
    refine pr_iload_n tX6_tell_0 1 rfl ?_
    refine pr_tsI (off := 65) (pc' := 66) tX6_tell_1 (by decide) rfl rfl ?_
    refine pr_aload_n tX6_tell_66 0 rfl ?_
    refine pr_get0 tX6_tell_67 rfl rfl rfl ?_
    refine pr_iret tX6_tell_70 rfl ?_
    rfl
  obtain ⟨x, h1, h2⟩ := key
  rw [h1, h2]

set_option maxRecDepth 100000 in
theorem ev_X7_told_2 (σ : pST) : kX7_told σ [.inr (.inr 0), .inl (nI 2)] = some ((σ, some (.inl (σ.1 8 3)))) := by
  have key : ∃ x, kX7_told σ [.inr (.inr 0), .inl (nI 2)] = some x ∧ x = (σ, some (.inl (σ.1 8 3))) := by
    refine pR_met (post := fun x => x = (σ, some (.inl (σ.1 8 3)))) rfl (Nat.le_of_ble_eq_true rfl) ?_
    show pR _ _ _ _ _ _ _ _ 0 [(0, .inr (.inr 0)), (1, .inl (nI 2))] [] σ
    refine pr_aload_n tX7_told_0 0 rfl ?_
    refine pr_geta (j := 8) tX7_told_1 rfl rfl rfl rfl ?_
    refine pr_iload_n tX7_told_4 1 rfl ?_
    refine pr_callV tX7_told_5 rfl ⟨Nat.le_of_ble_eq_true rfl, Nat.le_of_ble_eq_true rfl, rfl⟩ (ev_X6_tell_2 σ) ?_
    refine pR_eq (st' := [.inl (σ.1 8 3)]) rfl rfl ?_
    refine pr_iret tX7_told_8 rfl ?_
    rfl
  obtain ⟨x, h1, h2⟩ := key
  rw [h1, h2]

set_option maxRecDepth 100000 in
theorem ev_X8_told_3 (σ : pST) : kX8_told σ [.inr (.inr 0), .inl (nI 3)] = some ((σ, some (.inl (σ.1 0 43)))) := by
  have key : ∃ x, kX8_told σ [.inr (.inr 0), .inl (nI 3)] = some x ∧ x = (σ, some (.inl (σ.1 0 43))) := by
    refine pR_met (post := fun x => x = (σ, some (.inl (σ.1 0 43)))) rfl (Nat.le_of_ble_eq_true rfl) ?_
    show pR _ _ _ _ _ _ _ _ 0 [(0, .inr (.inr 0)), (1, .inl (nI 3))] [] σ
    refine pr_iload_n tX8_told_0 1 rfl ?_
    refine pr_tsI (off := 70) (pc' := 71) tX8_told_1 (by decide) rfl rfl ?_
    refine pr_aload_n tX8_told_71 0 rfl ?_
    refine pr_get0 tX8_told_72 rfl rfl rfl ?_
    refine pr_iret tX8_told_75 rfl ?_
    rfl
  obtain ⟨x, h1, h2⟩ := key
  rw [h1, h2]

set_option maxRecDepth 100000 in
theorem ev_X6_tell_3 (σ : pST) : kX6_tell σ [.inr (.inr 8), .inl (nI 3)] = some ((σ, some (.inl (σ.1 8 4)))) := by
  have key : ∃ x, kX6_tell σ [.inr (.inr 8), .inl (nI 3)] = some x ∧ x = (σ, some (.inl (σ.1 8 4))) := by
    refine pR_met (post := fun x => x = (σ, some (.inl (σ.1 8 4)))) rfl (Nat.le_of_ble_eq_true rfl) ?_
    show pR _ _ _ _ _ _ _ _ 0 [(0, .inr (.inr 8)), (1, .inl (nI 3))] [] σ
    refine pr_iload_n tX6_tell_0 1 rfl ?_
    refine pr_tsI (off := 70) (pc' := 71) tX6_tell_1 (by decide) rfl rfl ?_
    refine pr_aload_n tX6_tell_71 0 rfl ?_
    refine pr_get0 tX6_tell_72 rfl rfl rfl ?_
    refine pr_iret tX6_tell_75 rfl ?_
    rfl
  obtain ⟨x, h1, h2⟩ := key
  rw [h1, h2]

set_option maxRecDepth 100000 in
theorem ev_X7_told_3 (σ : pST) : kX7_told σ [.inr (.inr 0), .inl (nI 3)] = some ((σ, some (.inl (σ.1 8 4)))) := by
  have key : ∃ x, kX7_told σ [.inr (.inr 0), .inl (nI 3)] = some x ∧ x = (σ, some (.inl (σ.1 8 4))) := by
    refine pR_met (post := fun x => x = (σ, some (.inl (σ.1 8 4)))) rfl (Nat.le_of_ble_eq_true rfl) ?_
    show pR _ _ _ _ _ _ _ _ 0 [(0, .inr (.inr 0)), (1, .inl (nI 3))] [] σ
    refine pr_aload_n tX7_told_0 0 rfl ?_
    refine pr_geta (j := 8) tX7_told_1 rfl rfl rfl rfl ?_
    refine pr_iload_n tX7_told_4 1 rfl ?_
    refine pr_callV tX7_told_5 rfl ⟨Nat.le_of_ble_eq_true rfl, Nat.le_of_ble_eq_true rfl, rfl⟩ (ev_X6_tell_3 σ) ?_
    refine pR_eq (st' := [.inl (σ.1 8 4)]) rfl rfl ?_
    refine pr_iret tX7_told_8 rfl ?_
    rfl
  obtain ⟨x, h1, h2⟩ := key
  rw [h1, h2]

set_option maxRecDepth 100000 in
theorem ev_X8_told_4 (σ : pST) : kX8_told σ [.inr (.inr 0), .inl (nI 4)] = some ((σ, some (.inl (σ.1 0 44)))) := by
  have key : ∃ x, kX8_told σ [.inr (.inr 0), .inl (nI 4)] = some x ∧ x = (σ, some (.inl (σ.1 0 44))) := by
    refine pR_met (post := fun x => x = (σ, some (.inl (σ.1 0 44)))) rfl (Nat.le_of_ble_eq_true rfl) ?_
    show pR _ _ _ _ _ _ _ _ 0 [(0, .inr (.inr 0)), (1, .inl (nI 4))] [] σ
    refine pr_iload_n tX8_told_0 1 rfl ?_
    refine pr_tsI (off := 75) (pc' := 76) tX8_told_1 (by decide) rfl rfl ?_
    refine pr_aload_n tX8_told_76 0 rfl ?_
    refine pr_get0 tX8_told_77 rfl rfl rfl ?_
    refine pr_iret tX8_told_80 rfl ?_
    rfl
  obtain ⟨x, h1, h2⟩ := key
  rw [h1, h2]

set_option maxRecDepth 100000 in
theorem ev_X6_tell_4 (σ : pST) : kX6_tell σ [.inr (.inr 8), .inl (nI 4)] = some ((σ, some (.inl (σ.1 8 5)))) := by
  have key : ∃ x, kX6_tell σ [.inr (.inr 8), .inl (nI 4)] = some x ∧ x = (σ, some (.inl (σ.1 8 5))) := by
    refine pR_met (post := fun x => x = (σ, some (.inl (σ.1 8 5)))) rfl (Nat.le_of_ble_eq_true rfl) ?_
    show pR _ _ _ _ _ _ _ _ 0 [(0, .inr (.inr 8)), (1, .inl (nI 4))] [] σ
    refine pr_iload_n tX6_tell_0 1 rfl ?_
    refine pr_tsI (off := 75) (pc' := 76) tX6_tell_1 (by decide) rfl rfl ?_
    refine pr_aload_n tX6_tell_76 0 rfl ?_
    refine pr_get0 tX6_tell_77 rfl rfl rfl ?_
    refine pr_iret tX6_tell_80 rfl ?_
    rfl
  obtain ⟨x, h1, h2⟩ := key
  rw [h1, h2]

set_option maxRecDepth 100000 in
theorem ev_X7_told_4 (σ : pST) : kX7_told σ [.inr (.inr 0), .inl (nI 4)] = some ((σ, some (.inl (σ.1 8 5)))) := by
  have key : ∃ x, kX7_told σ [.inr (.inr 0), .inl (nI 4)] = some x ∧ x = (σ, some (.inl (σ.1 8 5))) := by
    refine pR_met (post := fun x => x = (σ, some (.inl (σ.1 8 5)))) rfl (Nat.le_of_ble_eq_true rfl) ?_
    show pR _ _ _ _ _ _ _ _ 0 [(0, .inr (.inr 0)), (1, .inl (nI 4))] [] σ
    refine pr_aload_n tX7_told_0 0 rfl ?_
    refine pr_geta (j := 8) tX7_told_1 rfl rfl rfl rfl ?_
    refine pr_iload_n tX7_told_4 1 rfl ?_
    refine pr_callV tX7_told_5 rfl ⟨Nat.le_of_ble_eq_true rfl, Nat.le_of_ble_eq_true rfl, rfl⟩ (ev_X6_tell_4 σ) ?_
    refine pR_eq (st' := [.inl (σ.1 8 5)]) rfl rfl ?_
    refine pr_iret tX7_told_8 rfl ?_
    rfl
  obtain ⟨x, h1, h2⟩ := key
  rw [h1, h2]

set_option maxRecDepth 100000 in
theorem ev_X8_told_5 (σ : pST) : kX8_told σ [.inr (.inr 0), .inl (nI 5)] = some ((σ, some (.inl (σ.1 0 22)))) := by
  have key : ∃ x, kX8_told σ [.inr (.inr 0), .inl (nI 5)] = some x ∧ x = (σ, some (.inl (σ.1 0 22))) := by
    refine pR_met (post := fun x => x = (σ, some (.inl (σ.1 0 22)))) rfl (Nat.le_of_ble_eq_true rfl) ?_
    show pR _ _ _ _ _ _ _ _ 0 [(0, .inr (.inr 0)), (1, .inl (nI 5))] [] σ
    refine pr_iload_n tX8_told_0 1 rfl ?_
    refine pr_tsI (off := 80) (pc' := 81) tX8_told_1 (by decide) rfl rfl ?_
    refine pr_aload_n tX8_told_81 0 rfl ?_
    refine pr_get0 tX8_told_82 rfl rfl rfl ?_
    refine pr_iret tX8_told_85 rfl ?_
    rfl
  obtain ⟨x, h1, h2⟩ := key
  rw [h1, h2]

set_option maxRecDepth 100000 in
theorem ev_X6_tell_5 (σ : pST) {n : Nat} (hn : n ≤ 16) (h : σ.1 9 2 = nI n) : kX6_tell σ [.inr (.inr 8), .inl (nI 5)] = some ((σ, some (.inl (sumA (fun c => σ.1 (9 + 7 + 8 * c) 2) n)))) := by
  have key : ∃ x, kX6_tell σ [.inr (.inr 8), .inl (nI 5)] = some x ∧ x = (σ, some (.inl (sumA (fun c => σ.1 (9 + 7 + 8 * c) 2) n))) := by
    refine pR_met (post := fun x => x = (σ, some (.inl (sumA (fun c => σ.1 (9 + 7 + 8 * c) 2) n)))) rfl (Nat.le_of_ble_eq_true rfl) ?_
    show pR _ _ _ _ _ _ _ _ 0 [(0, .inr (.inr 8)), (1, .inl (nI 5))] [] σ
    refine pr_iload_n tX6_tell_0 1 rfl ?_
    refine pr_tsI (off := 80) (pc' := 81) tX6_tell_1 (by decide) rfl rfl ?_
    refine pr_aload_n tX6_tell_81 0 rfl ?_
    refine pr_geta (j := 9) tX6_tell_82 rfl rfl rfl rfl ?_
    refine pr_callV tX6_tell_85 rfl ⟨Nat.le_of_ble_eq_true rfl, Nat.le_of_ble_eq_true rfl, rfl⟩ (ev_X1_countActs σ (b := 9) (Or.inl rfl) hn h) ?_
    refine pR_eq (st' := [.inl (sumA (fun c => σ.1 (9 + 7 + 8 * c) 2) n)]) rfl rfl ?_
    refine pr_iret tX6_tell_88 rfl ?_
    rfl
  obtain ⟨x, h1, h2⟩ := key
  rw [h1, h2]

set_option maxRecDepth 100000 in
theorem ev_X7_told_5 (σ : pST) {n : Nat} (hn : n ≤ 16) (h : σ.1 9 2 = nI n) : kX7_told σ [.inr (.inr 0), .inl (nI 5)] = some ((σ, some (.inl (sumA (fun c => σ.1 (9 + 7 + 8 * c) 2) n)))) := by
  have key : ∃ x, kX7_told σ [.inr (.inr 0), .inl (nI 5)] = some x ∧ x = (σ, some (.inl (sumA (fun c => σ.1 (9 + 7 + 8 * c) 2) n))) := by
    refine pR_met (post := fun x => x = (σ, some (.inl (sumA (fun c => σ.1 (9 + 7 + 8 * c) 2) n)))) rfl (Nat.le_of_ble_eq_true rfl) ?_
    show pR _ _ _ _ _ _ _ _ 0 [(0, .inr (.inr 0)), (1, .inl (nI 5))] [] σ
    refine pr_aload_n tX7_told_0 0 rfl ?_
    refine pr_geta (j := 8) tX7_told_1 rfl rfl rfl rfl ?_
    refine pr_iload_n tX7_told_4 1 rfl ?_
    refine pr_callV tX7_told_5 rfl ⟨Nat.le_of_ble_eq_true rfl, Nat.le_of_ble_eq_true rfl, rfl⟩ (ev_X6_tell_5 σ hn h) ?_
    refine pR_eq (st' := [.inl (sumA (fun c => σ.1 (9 + 7 + 8 * c) 2) n)]) rfl rfl ?_
    refine pr_iret tX7_told_8 rfl ?_
    rfl
  obtain ⟨x, h1, h2⟩ := key
  rw [h1, h2]

set_option maxRecDepth 100000 in
theorem ev_X8_told_6 (σ : pST) : kX8_told σ [.inr (.inr 0), .inl (nI 6)] = some ((σ, some (.inl (σ.1 0 45)))) := by
  have key : ∃ x, kX8_told σ [.inr (.inr 0), .inl (nI 6)] = some x ∧ x = (σ, some (.inl (σ.1 0 45))) := by
    refine pR_met (post := fun x => x = (σ, some (.inl (σ.1 0 45)))) rfl (Nat.le_of_ble_eq_true rfl) ?_
    show pR _ _ _ _ _ _ _ _ 0 [(0, .inr (.inr 0)), (1, .inl (nI 6))] [] σ
    refine pr_iload_n tX8_told_0 1 rfl ?_
    refine pr_tsI (off := 85) (pc' := 86) tX8_told_1 (by decide) rfl rfl ?_
    refine pr_aload_n tX8_told_86 0 rfl ?_
    refine pr_get0 tX8_told_87 rfl rfl rfl ?_
    refine pr_iret tX8_told_90 rfl ?_
    rfl
  obtain ⟨x, h1, h2⟩ := key
  rw [h1, h2]

set_option maxRecDepth 100000 in
theorem ev_X6_tell_6 (σ : pST) {n : Nat} (hn : n ≤ 16) (h : σ.1 9 2 = nI n) : kX6_tell σ [.inr (.inr 8), .inl (nI 6)] = some ((σ, some (.inl (cntG (fun c => σ.1 (9 + 7 + 8 * c) 7) n)))) := by
  have key : ∃ x, kX6_tell σ [.inr (.inr 8), .inl (nI 6)] = some x ∧ x = (σ, some (.inl (cntG (fun c => σ.1 (9 + 7 + 8 * c) 7) n))) := by
    refine pR_met (post := fun x => x = (σ, some (.inl (cntG (fun c => σ.1 (9 + 7 + 8 * c) 7) n)))) rfl (Nat.le_of_ble_eq_true rfl) ?_
    show pR _ _ _ _ _ _ _ _ 0 [(0, .inr (.inr 8)), (1, .inl (nI 6))] [] σ
    refine pr_iload_n tX6_tell_0 1 rfl ?_
    refine pr_tsI (off := 88) (pc' := 89) tX6_tell_1 (by decide) rfl rfl ?_
    refine pr_aload_n tX6_tell_89 0 rfl ?_
    refine pr_geta (j := 9) tX6_tell_90 rfl rfl rfl rfl ?_
    refine pr_callV tX6_tell_93 rfl ⟨Nat.le_of_ble_eq_true rfl, Nat.le_of_ble_eq_true rfl, rfl⟩ (ev_X1_countGroups σ (b := 9) (Or.inl rfl) hn h) ?_
    refine pR_eq (st' := [.inl (cntG (fun c => σ.1 (9 + 7 + 8 * c) 7) n)]) rfl rfl ?_
    refine pr_iret tX6_tell_96 rfl ?_
    rfl
  obtain ⟨x, h1, h2⟩ := key
  rw [h1, h2]

set_option maxRecDepth 100000 in
theorem ev_X7_told_6 (σ : pST) {n : Nat} (hn : n ≤ 16) (h : σ.1 9 2 = nI n) : kX7_told σ [.inr (.inr 0), .inl (nI 6)] = some ((σ, some (.inl (cntG (fun c => σ.1 (9 + 7 + 8 * c) 7) n)))) := by
  have key : ∃ x, kX7_told σ [.inr (.inr 0), .inl (nI 6)] = some x ∧ x = (σ, some (.inl (cntG (fun c => σ.1 (9 + 7 + 8 * c) 7) n))) := by
    refine pR_met (post := fun x => x = (σ, some (.inl (cntG (fun c => σ.1 (9 + 7 + 8 * c) 7) n)))) rfl (Nat.le_of_ble_eq_true rfl) ?_
    show pR _ _ _ _ _ _ _ _ 0 [(0, .inr (.inr 0)), (1, .inl (nI 6))] [] σ
    refine pr_aload_n tX7_told_0 0 rfl ?_
    refine pr_geta (j := 8) tX7_told_1 rfl rfl rfl rfl ?_
    refine pr_iload_n tX7_told_4 1 rfl ?_
    refine pr_callV tX7_told_5 rfl ⟨Nat.le_of_ble_eq_true rfl, Nat.le_of_ble_eq_true rfl, rfl⟩ (ev_X6_tell_6 σ hn h) ?_
    refine pR_eq (st' := [.inl (cntG (fun c => σ.1 (9 + 7 + 8 * c) 7) n)]) rfl rfl ?_
    refine pr_iret tX7_told_8 rfl ?_
    rfl
  obtain ⟨x, h1, h2⟩ := key
  rw [h1, h2]

set_option maxRecDepth 100000 in
theorem ev_X8_told_7 (σ : pST) : kX8_told σ [.inr (.inr 0), .inl (nI 7)] = some ((σ, some (.inl (σ.1 0 39)))) := by
  have key : ∃ x, kX8_told σ [.inr (.inr 0), .inl (nI 7)] = some x ∧ x = (σ, some (.inl (σ.1 0 39))) := by
    refine pR_met (post := fun x => x = (σ, some (.inl (σ.1 0 39)))) rfl (Nat.le_of_ble_eq_true rfl) ?_
    show pR _ _ _ _ _ _ _ _ 0 [(0, .inr (.inr 0)), (1, .inl (nI 7))] [] σ
    refine pr_iload_n tX8_told_0 1 rfl ?_
    refine pr_tsI (off := 90) (pc' := 91) tX8_told_1 (by decide) rfl rfl ?_
    refine pr_aload_n tX8_told_91 0 rfl ?_
    refine pr_get0 tX8_told_92 rfl rfl rfl ?_
    refine pr_iret tX8_told_95 rfl ?_
    rfl
  obtain ⟨x, h1, h2⟩ := key
  rw [h1, h2]

set_option maxRecDepth 100000 in
theorem ev_X6_tell_7 (σ : pST) : kX6_tell σ [.inr (.inr 8), .inl (nI 7)] = some ((σ, some (.inl (σ.1 9 2)))) := by
  have key : ∃ x, kX6_tell σ [.inr (.inr 8), .inl (nI 7)] = some x ∧ x = (σ, some (.inl (σ.1 9 2))) := by
    refine pR_met (post := fun x => x = (σ, some (.inl (σ.1 9 2)))) rfl (Nat.le_of_ble_eq_true rfl) ?_
    show pR _ _ _ _ _ _ _ _ 0 [(0, .inr (.inr 8)), (1, .inl (nI 7))] [] σ
    refine pr_iload_n tX6_tell_0 1 rfl ?_
    refine pr_tsI (off := 96) (pc' := 97) tX6_tell_1 (by decide) rfl rfl ?_
    refine pr_aload_n tX6_tell_97 0 rfl ?_
    refine pr_geta (j := 9) tX6_tell_98 rfl rfl rfl rfl ?_
    refine pr_get0 tX6_tell_101 rfl rfl rfl ?_
    refine pr_iret tX6_tell_104 rfl ?_
    rfl
  obtain ⟨x, h1, h2⟩ := key
  rw [h1, h2]

set_option maxRecDepth 100000 in
theorem ev_X7_told_7 (σ : pST) : kX7_told σ [.inr (.inr 0), .inl (nI 7)] = some ((σ, some (.inl (σ.1 9 2)))) := by
  have key : ∃ x, kX7_told σ [.inr (.inr 0), .inl (nI 7)] = some x ∧ x = (σ, some (.inl (σ.1 9 2))) := by
    refine pR_met (post := fun x => x = (σ, some (.inl (σ.1 9 2)))) rfl (Nat.le_of_ble_eq_true rfl) ?_
    show pR _ _ _ _ _ _ _ _ 0 [(0, .inr (.inr 0)), (1, .inl (nI 7))] [] σ
    refine pr_aload_n tX7_told_0 0 rfl ?_
    refine pr_geta (j := 8) tX7_told_1 rfl rfl rfl rfl ?_
    refine pr_iload_n tX7_told_4 1 rfl ?_
    refine pr_callV tX7_told_5 rfl ⟨Nat.le_of_ble_eq_true rfl, Nat.le_of_ble_eq_true rfl, rfl⟩ (ev_X6_tell_7 σ) ?_
    refine pR_eq (st' := [.inl (σ.1 9 2)]) rfl rfl ?_
    refine pr_iret tX7_told_8 rfl ?_
    rfl
  obtain ⟨x, h1, h2⟩ := key
  rw [h1, h2]

set_option maxRecDepth 100000 in
theorem ev_X8_told_out (σ : pST) {w : Int32} (hw : w.toInt < 0 ∨ 7 < w.toInt) : kX8_told σ [.inr (.inr 0), .inl w] = some ((σ, some (.inl (-1)))) := by
  have key : ∃ x, kX8_told σ [.inr (.inr 0), .inl w] = some x ∧ x = (σ, some (.inl (-1))) := by
    refine pR_met (post := fun x => x = (σ, some (.inl (-1)))) rfl (Nat.le_of_ble_eq_true rfl) ?_
    show pR _ _ _ _ _ _ _ _ 0 [(0, .inr (.inr 0)), (1, .inl w)] [] σ
    refine pr_iload_n tX8_told_0 1 rfl ?_
    refine pr_tsO (pc' := 96) tX8_told_1 (hw) rfl ?_
    refine pr_iconst (v := -1) tX8_told_96 rfl ?_
    refine pr_iret tX8_told_97 rfl ?_
    rfl
  obtain ⟨x, h1, h2⟩ := key
  rw [h1, h2]

set_option maxRecDepth 100000 in
theorem ev_X6_tell_out (σ : pST) {w : Int32} (hw : w.toInt < 0 ∨ 7 < w.toInt) : kX6_tell σ [.inr (.inr 8), .inl w] = some ((σ, some (.inl (-1)))) := by
  have key : ∃ x, kX6_tell σ [.inr (.inr 8), .inl w] = some x ∧ x = (σ, some (.inl (-1))) := by
    refine pR_met (post := fun x => x = (σ, some (.inl (-1)))) rfl (Nat.le_of_ble_eq_true rfl) ?_
    show pR _ _ _ _ _ _ _ _ 0 [(0, .inr (.inr 8)), (1, .inl w)] [] σ
    refine pr_iload_n tX6_tell_0 1 rfl ?_
    refine pr_tsO (pc' := 105) tX6_tell_1 (hw) rfl ?_
    refine pr_iconst (v := -1) tX6_tell_105 rfl ?_
    refine pr_iret tX6_tell_106 rfl ?_
    rfl
  obtain ⟨x, h1, h2⟩ := key
  rw [h1, h2]

set_option maxRecDepth 100000 in
theorem ev_X7_told_out (σ : pST) {w : Int32} (hw : w.toInt < 0 ∨ 7 < w.toInt) : kX7_told σ [.inr (.inr 0), .inl w] = some ((σ, some (.inl (-1)))) := by
  have key : ∃ x, kX7_told σ [.inr (.inr 0), .inl w] = some x ∧ x = (σ, some (.inl (-1))) := by
    refine pR_met (post := fun x => x = (σ, some (.inl (-1)))) rfl (Nat.le_of_ble_eq_true rfl) ?_
    show pR _ _ _ _ _ _ _ _ 0 [(0, .inr (.inr 0)), (1, .inl w)] [] σ
    refine pr_aload_n tX7_told_0 0 rfl ?_
    refine pr_geta (j := 8) tX7_told_1 rfl rfl rfl rfl ?_
    refine pr_iload_n tX7_told_4 1 rfl ?_
    refine pr_callV tX7_told_5 rfl ⟨Nat.le_of_ble_eq_true rfl, Nat.le_of_ble_eq_true rfl, rfl⟩ (ev_X6_tell_out σ hw) ?_
    refine pR_eq (st' := [.inl (-1)]) rfl rfl ?_
    refine pr_iret tX7_told_8 rfl ?_
    rfl
  obtain ⟨x, h1, h2⟩ := key
  rw [h1, h2]
