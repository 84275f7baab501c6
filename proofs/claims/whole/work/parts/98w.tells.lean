/-! ===== event and of, on both sides ===== -/
set_option maxRecDepth 100000 in
theorem ev_X8_of_0 (σ : pST) {n c : Nat} (hn : σ.1 0 39 = nI n) (hn1 : n ≤ 16) (hc : c < n) : kX8_of σ [.inr (.inr 0), .inl (nI c), .inl (nI 0)] = some ((σ, some (.inl (σ.1 40 c)))) := by
  have key : ∃ x, kX8_of σ [.inr (.inr 0), .inl (nI c), .inl (nI 0)] = some x ∧ x = (σ, some (.inl (σ.1 40 c))) := by
    refine pR_met (post := fun x => x = (σ, some (.inl (σ.1 40 c)))) rfl (Nat.le_of_ble_eq_true rfl) ?_
    show pR _ _ _ _ _ _ _ _ 0 [(0, .inr (.inr 0)), (1, .inl (nI c)), (2, .inl (nI 0))] [] σ
    refine pr_iload_n tX8_of_0 1 rfl ?_
    refine pr_if_lt (pc' := 21) tX8_of_1 rfl (fun hc1 => ?_) (fun hc1 => ?_)
    · skip
      exact absurd hc1 (nI_pos (by omega))
    · skip
      refine pr_iload_n tX8_of_4 1 rfl ?_
      refine pr_aload_n tX8_of_5 0 rfl ?_
      refine pr_get0 tX8_of_6 rfl rfl rfl ?_
      refine pR_topi (y := (nI n)) (by simp [pm_ui, pm_uj, upd, vp_updL, hn]) ?_
      refine pr_ic_ge (pc' := 21) tX8_of_9 rfl (fun hc9 => ?_) (fun hc9 => ?_)
      · skip
        exact absurd ((nI_leI (by omega) (by omega)).mp hc9) (by omega)
      · skip
        have hc9 : ¬ n ≤ c := fun z9 => hc9 ((nI_leI (by omega) (by omega)).mpr z9)
        refine pr_iload_n tX8_of_12 2 rfl ?_
        refine pr_if_lt (pc' := 21) tX8_of_13 rfl (fun hc13 => ?_) (fun hc13 => ?_)
        · skip
          exact absurd hc13 (by decide)
        · skip
          refine pr_iload_n tX8_of_16 2 rfl ?_
          refine pr_iconst (v := nI 5) tX8_of_17 rfl ?_
          refine pr_ic_le (pc' := 23) tX8_of_18 rfl (fun hc18 => ?_) (fun hc18 => ?_)
          · skip
            refine pr_iload_n tX8_of_23 2 rfl ?_
            refine pr_if_ne (pc' := 36) tX8_of_24 rfl (fun hc24 => ?_) (fun hc24 => ?_)
            · skip
              exact absurd hc24 (by decide)
            · skip
              refine pr_aload_n tX8_of_27 0 rfl ?_
              refine pr_geta (j := 40) tX8_of_28 rfl rfl rfl rfl ?_
              refine pr_iload_n tX8_of_31 1 rfl ?_
              refine pr_ial tX8_of_32 c rfl rfl (by omega) (by decide) ?_
              refine pr_goto (pc' := 106) tX8_of_33 rfl ?_
              refine pr_iret tX8_of_106 rfl ?_
              rfl
          · skip
            exact absurd (by decide) hc18
  obtain ⟨x, h1, h2⟩ := key
  rw [h1, h2]

set_option maxRecDepth 100000 in
theorem ev_X8_of_1 (σ : pST) {n c : Nat} (hn : σ.1 0 39 = nI n) (hn1 : n ≤ 16) (hc : c < n) : kX8_of σ [.inr (.inr 0), .inl (nI c), .inl (nI 1)] = some ((σ, some (.inl (σ.1 39 c)))) := by
  have key : ∃ x, kX8_of σ [.inr (.inr 0), .inl (nI c), .inl (nI 1)] = some x ∧ x = (σ, some (.inl (σ.1 39 c))) := by
    refine pR_met (post := fun x => x = (σ, some (.inl (σ.1 39 c)))) rfl (Nat.le_of_ble_eq_true rfl) ?_
    show pR _ _ _ _ _ _ _ _ 0 [(0, .inr (.inr 0)), (1, .inl (nI c)), (2, .inl (nI 1))] [] σ
    refine pr_iload_n tX8_of_0 1 rfl ?_
    refine pr_if_lt (pc' := 21) tX8_of_1 rfl (fun hc1 => ?_) (fun hc1 => ?_)
    · skip
      exact absurd hc1 (nI_pos (by omega))
    · skip
      refine pr_iload_n tX8_of_4 1 rfl ?_
      refine pr_aload_n tX8_of_5 0 rfl ?_
      refine pr_get0 tX8_of_6 rfl rfl rfl ?_
      refine pR_topi (y := (nI n)) (by simp [pm_ui, pm_uj, upd, vp_updL, hn]) ?_
      refine pr_ic_ge (pc' := 21) tX8_of_9 rfl (fun hc9 => ?_) (fun hc9 => ?_)
      · skip
        exact absurd ((nI_leI (by omega) (by omega)).mp hc9) (by omega)
      · skip
        have hc9 : ¬ n ≤ c := fun z9 => hc9 ((nI_leI (by omega) (by omega)).mpr z9)
        refine pr_iload_n tX8_of_12 2 rfl ?_
        refine pr_if_lt (pc' := 21) tX8_of_13 rfl (fun hc13 => ?_) (fun hc13 => ?_)
        · skip
          exact absurd hc13 (by decide)
        · skip
          refine pr_iload_n tX8_of_16 2 rfl ?_
          refine pr_iconst (v := nI 5) tX8_of_17 rfl ?_
          refine pr_ic_le (pc' := 23) tX8_of_18 rfl (fun hc18 => ?_) (fun hc18 => ?_)
          · skip
            refine pr_iload_n tX8_of_23 2 rfl ?_
            refine pr_if_ne (pc' := 36) tX8_of_24 rfl (fun hc24 => ?_) (fun hc24 => ?_)
            · skip
              refine pr_iload_n tX8_of_36 2 rfl ?_
              refine pr_iconst (v := nI 1) tX8_of_37 rfl ?_
              refine pr_ic_ne (pc' := 50) tX8_of_38 rfl (fun hc38 => ?_) (fun hc38 => ?_)
              · skip
                exact absurd hc38 (by decide)
              · skip
                refine pr_aload_n tX8_of_41 0 rfl ?_
                refine pr_geta (j := 39) tX8_of_42 rfl rfl rfl rfl ?_
                refine pr_iload_n tX8_of_45 1 rfl ?_
                refine pr_ial tX8_of_46 c rfl rfl (by omega) (by decide) ?_
                refine pr_goto (pc' := 106) tX8_of_47 rfl ?_
                refine pr_iret tX8_of_106 rfl ?_
                rfl
            · skip
              exact absurd (by decide) hc24
          · skip
            exact absurd (by decide) hc18
  obtain ⟨x, h1, h2⟩ := key
  rw [h1, h2]

set_option maxRecDepth 100000 in
theorem ev_X8_of_2 (σ : pST) {n c : Nat} (hn : σ.1 0 39 = nI n) (hn1 : n ≤ 16) (hc : c < n) {b : Bool} (hb : σ.1 36 c = cond b 1 0) : kX8_of σ [.inr (.inr 0), .inl (nI c), .inl (nI 2)] = some ((σ, some (.inl (cond b 1 0)))) := by
  have key : ∃ x, kX8_of σ [.inr (.inr 0), .inl (nI c), .inl (nI 2)] = some x ∧ x = (σ, some (.inl (cond b 1 0))) := by
    refine pR_met (post := fun x => x = (σ, some (.inl (cond b 1 0)))) rfl (Nat.le_of_ble_eq_true rfl) ?_
    show pR _ _ _ _ _ _ _ _ 0 [(0, .inr (.inr 0)), (1, .inl (nI c)), (2, .inl (nI 2))] [] σ
    refine pr_iload_n tX8_of_0 1 rfl ?_
    refine pr_if_lt (pc' := 21) tX8_of_1 rfl (fun hc1 => ?_) (fun hc1 => ?_)
    · skip
      exact absurd hc1 (nI_pos (by omega))
    · skip
      refine pr_iload_n tX8_of_4 1 rfl ?_
      refine pr_aload_n tX8_of_5 0 rfl ?_
      refine pr_get0 tX8_of_6 rfl rfl rfl ?_
      refine pR_topi (y := (nI n)) (by simp [pm_ui, pm_uj, upd, vp_updL, hn]) ?_
      refine pr_ic_ge (pc' := 21) tX8_of_9 rfl (fun hc9 => ?_) (fun hc9 => ?_)
      · skip
        exact absurd ((nI_leI (by omega) (by omega)).mp hc9) (by omega)
      · skip
        have hc9 : ¬ n ≤ c := fun z9 => hc9 ((nI_leI (by omega) (by omega)).mpr z9)
        refine pr_iload_n tX8_of_12 2 rfl ?_
        refine pr_if_lt (pc' := 21) tX8_of_13 rfl (fun hc13 => ?_) (fun hc13 => ?_)
        · skip
          exact absurd hc13 (by decide)
        · skip
          refine pr_iload_n tX8_of_16 2 rfl ?_
          refine pr_iconst (v := nI 5) tX8_of_17 rfl ?_
          refine pr_ic_le (pc' := 23) tX8_of_18 rfl (fun hc18 => ?_) (fun hc18 => ?_)
          · skip
            refine pr_iload_n tX8_of_23 2 rfl ?_
            refine pr_if_ne (pc' := 36) tX8_of_24 rfl (fun hc24 => ?_) (fun hc24 => ?_)
            · skip
              refine pr_iload_n tX8_of_36 2 rfl ?_
              refine pr_iconst (v := nI 1) tX8_of_37 rfl ?_
              refine pr_ic_ne (pc' := 50) tX8_of_38 rfl (fun hc38 => ?_) (fun hc38 => ?_)
              · skip
                refine pr_iload_n tX8_of_50 2 rfl ?_
                refine pr_iconst (v := nI 2) tX8_of_51 rfl ?_
                refine pr_ic_ne (pc' := 72) tX8_of_52 rfl (fun hc52 => ?_) (fun hc52 => ?_)
                · skip
                  exact absurd hc52 (by decide)
                · skip
                  refine pr_aload_n tX8_of_55 0 rfl ?_
                  refine pr_geta (j := 36) tX8_of_56 rfl rfl rfl rfl ?_
                  refine pr_iload_n tX8_of_59 1 rfl ?_
                  refine pr_zal tX8_of_60 c rfl rfl (by omega) (by decide) ?_
                  refine pr_if_eq (pc' := 68) tX8_of_61 rfl (fun hc61 => ?_) (fun hc61 => ?_)
                  · skip
                    skip
                    refine pr_iconst (v := nI 0) tX8_of_68 rfl ?_
                    refine pr_goto (pc' := 106) tX8_of_69 rfl ?_
                    refine pr_iret tX8_of_106 rfl ?_
                    cases b with
                    | true => rw [hb] at hc61; exact absurd hc61 (by decide)
                    | false => rfl
                  · skip
                    skip
                    refine pr_iconst (v := nI 1) tX8_of_64 rfl ?_
                    refine pr_goto (pc' := 106) tX8_of_65 rfl ?_
                    refine pr_iret tX8_of_106 rfl ?_
                    cases b with
                    | true => rfl
                    | false => exact absurd hb hc61
              · skip
                exact absurd (by decide) hc38
            · skip
              exact absurd (by decide) hc24
          · skip
            exact absurd (by decide) hc18
  obtain ⟨x, h1, h2⟩ := key
  rw [h1, h2]

set_option maxRecDepth 100000 in
theorem ev_X8_of_3 (σ : pST) {n c : Nat} (hn : σ.1 0 39 = nI n) (hn1 : n ≤ 16) (hc : c < n) : kX8_of σ [.inr (.inr 0), .inl (nI c), .inl (nI 3)] = some ((σ, some (.inl (σ.1 37 c)))) := by
  have key : ∃ x, kX8_of σ [.inr (.inr 0), .inl (nI c), .inl (nI 3)] = some x ∧ x = (σ, some (.inl (σ.1 37 c))) := by
    refine pR_met (post := fun x => x = (σ, some (.inl (σ.1 37 c)))) rfl (Nat.le_of_ble_eq_true rfl) ?_
    show pR _ _ _ _ _ _ _ _ 0 [(0, .inr (.inr 0)), (1, .inl (nI c)), (2, .inl (nI 3))] [] σ
    refine pr_iload_n tX8_of_0 1 rfl ?_
    refine pr_if_lt (pc' := 21) tX8_of_1 rfl (fun hc1 => ?_) (fun hc1 => ?_)
    · skip
      exact absurd hc1 (nI_pos (by omega))
    · skip
      refine pr_iload_n tX8_of_4 1 rfl ?_
      refine pr_aload_n tX8_of_5 0 rfl ?_
      refine pr_get0 tX8_of_6 rfl rfl rfl ?_
      refine pR_topi (y := (nI n)) (by simp [pm_ui, pm_uj, upd, vp_updL, hn]) ?_
      refine pr_ic_ge (pc' := 21) tX8_of_9 rfl (fun hc9 => ?_) (fun hc9 => ?_)
      · skip
        exact absurd ((nI_leI (by omega) (by omega)).mp hc9) (by omega)
      · skip
        have hc9 : ¬ n ≤ c := fun z9 => hc9 ((nI_leI (by omega) (by omega)).mpr z9)
        refine pr_iload_n tX8_of_12 2 rfl ?_
        refine pr_if_lt (pc' := 21) tX8_of_13 rfl (fun hc13 => ?_) (fun hc13 => ?_)
        · skip
          exact absurd hc13 (by decide)
        · skip
          refine pr_iload_n tX8_of_16 2 rfl ?_
          refine pr_iconst (v := nI 5) tX8_of_17 rfl ?_
          refine pr_ic_le (pc' := 23) tX8_of_18 rfl (fun hc18 => ?_) (fun hc18 => ?_)
          · skip
            refine pr_iload_n tX8_of_23 2 rfl ?_
            refine pr_if_ne (pc' := 36) tX8_of_24 rfl (fun hc24 => ?_) (fun hc24 => ?_)
            · skip
              refine pr_iload_n tX8_of_36 2 rfl ?_
              refine pr_iconst (v := nI 1) tX8_of_37 rfl ?_
              refine pr_ic_ne (pc' := 50) tX8_of_38 rfl (fun hc38 => ?_) (fun hc38 => ?_)
              · skip
                refine pr_iload_n tX8_of_50 2 rfl ?_
                refine pr_iconst (v := nI 2) tX8_of_51 rfl ?_
                refine pr_ic_ne (pc' := 72) tX8_of_52 rfl (fun hc52 => ?_) (fun hc52 => ?_)
                · skip
                  refine pr_iload_n tX8_of_72 2 rfl ?_
                  refine pr_iconst (v := nI 3) tX8_of_73 rfl ?_
                  refine pr_ic_ne (pc' := 86) tX8_of_74 rfl (fun hc74 => ?_) (fun hc74 => ?_)
                  · skip
                    exact absurd hc74 (by decide)
                  · skip
                    refine pr_aload_n tX8_of_77 0 rfl ?_
                    refine pr_geta (j := 37) tX8_of_78 rfl rfl rfl rfl ?_
                    refine pr_iload_n tX8_of_81 1 rfl ?_
                    refine pr_ial tX8_of_82 c rfl rfl (by omega) (by decide) ?_
                    refine pr_goto (pc' := 106) tX8_of_83 rfl ?_
                    refine pr_iret tX8_of_106 rfl ?_
                    rfl
                · skip
                  exact absurd (by decide) hc52
              · skip
                exact absurd (by decide) hc38
            · skip
              exact absurd (by decide) hc24
          · skip
            exact absurd (by decide) hc18
  obtain ⟨x, h1, h2⟩ := key
  rw [h1, h2]

set_option maxRecDepth 100000 in
theorem ev_X8_of_4 (σ : pST) {n c : Nat} (hn : σ.1 0 39 = nI n) (hn1 : n ≤ 16) (hc : c < n) : kX8_of σ [.inr (.inr 0), .inl (nI c), .inl (nI 4)] = some ((σ, some (.inl (σ.1 38 c)))) := by
  have key : ∃ x, kX8_of σ [.inr (.inr 0), .inl (nI c), .inl (nI 4)] = some x ∧ x = (σ, some (.inl (σ.1 38 c))) := by
    refine pR_met (post := fun x => x = (σ, some (.inl (σ.1 38 c)))) rfl (Nat.le_of_ble_eq_true rfl) ?_
    show pR _ _ _ _ _ _ _ _ 0 [(0, .inr (.inr 0)), (1, .inl (nI c)), (2, .inl (nI 4))] [] σ
    refine pr_iload_n tX8_of_0 1 rfl ?_
    refine pr_if_lt (pc' := 21) tX8_of_1 rfl (fun hc1 => ?_) (fun hc1 => ?_)
    · skip
      exact absurd hc1 (nI_pos (by omega))
    · skip
      refine pr_iload_n tX8_of_4 1 rfl ?_
      refine pr_aload_n tX8_of_5 0 rfl ?_
      refine pr_get0 tX8_of_6 rfl rfl rfl ?_
      refine pR_topi (y := (nI n)) (by simp [pm_ui, pm_uj, upd, vp_updL, hn]) ?_
      refine pr_ic_ge (pc' := 21) tX8_of_9 rfl (fun hc9 => ?_) (fun hc9 => ?_)
      · skip
        exact absurd ((nI_leI (by omega) (by omega)).mp hc9) (by omega)
      · skip
        have hc9 : ¬ n ≤ c := fun z9 => hc9 ((nI_leI (by omega) (by omega)).mpr z9)
        refine pr_iload_n tX8_of_12 2 rfl ?_
        refine pr_if_lt (pc' := 21) tX8_of_13 rfl (fun hc13 => ?_) (fun hc13 => ?_)
        · skip
          exact absurd hc13 (by decide)
        · skip
          refine pr_iload_n tX8_of_16 2 rfl ?_
          refine pr_iconst (v := nI 5) tX8_of_17 rfl ?_
          refine pr_ic_le (pc' := 23) tX8_of_18 rfl (fun hc18 => ?_) (fun hc18 => ?_)
          · skip
            refine pr_iload_n tX8_of_23 2 rfl ?_
            refine pr_if_ne (pc' := 36) tX8_of_24 rfl (fun hc24 => ?_) (fun hc24 => ?_)
            · skip
              refine pr_iload_n tX8_of_36 2 rfl ?_
              refine pr_iconst (v := nI 1) tX8_of_37 rfl ?_
              refine pr_ic_ne (pc' := 50) tX8_of_38 rfl (fun hc38 => ?_) (fun hc38 => ?_)
              · skip
                refine pr_iload_n tX8_of_50 2 rfl ?_
                refine pr_iconst (v := nI 2) tX8_of_51 rfl ?_
                refine pr_ic_ne (pc' := 72) tX8_of_52 rfl (fun hc52 => ?_) (fun hc52 => ?_)
                · skip
                  refine pr_iload_n tX8_of_72 2 rfl ?_
                  refine pr_iconst (v := nI 3) tX8_of_73 rfl ?_
                  refine pr_ic_ne (pc' := 86) tX8_of_74 rfl (fun hc74 => ?_) (fun hc74 => ?_)
                  · skip
                    refine pr_iload_n tX8_of_86 2 rfl ?_
                    refine pr_iconst (v := nI 4) tX8_of_87 rfl ?_
                    refine pr_ic_ne (pc' := 100) tX8_of_88 rfl (fun hc88 => ?_) (fun hc88 => ?_)
                    · skip
                      exact absurd hc88 (by decide)
                    · skip
                      refine pr_aload_n tX8_of_91 0 rfl ?_
                      refine pr_geta (j := 38) tX8_of_92 rfl rfl rfl rfl ?_
                      refine pr_iload_n tX8_of_95 1 rfl ?_
                      refine pr_ial tX8_of_96 c rfl rfl (by omega) (by decide) ?_
                      refine pr_goto (pc' := 106) tX8_of_97 rfl ?_
                      refine pr_iret tX8_of_106 rfl ?_
                      rfl
                  · skip
                    exact absurd (by decide) hc74
                · skip
                  exact absurd (by decide) hc52
              · skip
                exact absurd (by decide) hc38
            · skip
              exact absurd (by decide) hc24
          · skip
            exact absurd (by decide) hc18
  obtain ⟨x, h1, h2⟩ := key
  rw [h1, h2]

set_option maxRecDepth 100000 in
theorem ev_X8_of_5 (σ : pST) {n c : Nat} (hn : σ.1 0 39 = nI n) (hn1 : n ≤ 16) (hc : c < n) : kX8_of σ [.inr (.inr 0), .inl (nI c), .inl (nI 5)] = some ((σ, some (.inl (σ.1 31 c)))) := by
  have key : ∃ x, kX8_of σ [.inr (.inr 0), .inl (nI c), .inl (nI 5)] = some x ∧ x = (σ, some (.inl (σ.1 31 c))) := by
    refine pR_met (post := fun x => x = (σ, some (.inl (σ.1 31 c)))) rfl (Nat.le_of_ble_eq_true rfl) ?_
    show pR _ _ _ _ _ _ _ _ 0 [(0, .inr (.inr 0)), (1, .inl (nI c)), (2, .inl (nI 5))] [] σ
    refine pr_iload_n tX8_of_0 1 rfl ?_
    refine pr_if_lt (pc' := 21) tX8_of_1 rfl (fun hc1 => ?_) (fun hc1 => ?_)
    · skip
      exact absurd hc1 (nI_pos (by omega))
    · skip
      refine pr_iload_n tX8_of_4 1 rfl ?_
      refine pr_aload_n tX8_of_5 0 rfl ?_
      refine pr_get0 tX8_of_6 rfl rfl rfl ?_
      refine pR_topi (y := (nI n)) (by simp [pm_ui, pm_uj, upd, vp_updL, hn]) ?_
      refine pr_ic_ge (pc' := 21) tX8_of_9 rfl (fun hc9 => ?_) (fun hc9 => ?_)
      · skip
        exact absurd ((nI_leI (by omega) (by omega)).mp hc9) (by omega)
      · skip
        have hc9 : ¬ n ≤ c := fun z9 => hc9 ((nI_leI (by omega) (by omega)).mpr z9)
        refine pr_iload_n tX8_of_12 2 rfl ?_
        refine pr_if_lt (pc' := 21) tX8_of_13 rfl (fun hc13 => ?_) (fun hc13 => ?_)
        · skip
          exact absurd hc13 (by decide)
        · skip
          refine pr_iload_n tX8_of_16 2 rfl ?_
          refine pr_iconst (v := nI 5) tX8_of_17 rfl ?_
          refine pr_ic_le (pc' := 23) tX8_of_18 rfl (fun hc18 => ?_) (fun hc18 => ?_)
          · skip
            refine pr_iload_n tX8_of_23 2 rfl ?_
            refine pr_if_ne (pc' := 36) tX8_of_24 rfl (fun hc24 => ?_) (fun hc24 => ?_)
            · skip
              refine pr_iload_n tX8_of_36 2 rfl ?_
              refine pr_iconst (v := nI 1) tX8_of_37 rfl ?_
              refine pr_ic_ne (pc' := 50) tX8_of_38 rfl (fun hc38 => ?_) (fun hc38 => ?_)
              · skip
                refine pr_iload_n tX8_of_50 2 rfl ?_
                refine pr_iconst (v := nI 2) tX8_of_51 rfl ?_
                refine pr_ic_ne (pc' := 72) tX8_of_52 rfl (fun hc52 => ?_) (fun hc52 => ?_)
                · skip
                  refine pr_iload_n tX8_of_72 2 rfl ?_
                  refine pr_iconst (v := nI 3) tX8_of_73 rfl ?_
                  refine pr_ic_ne (pc' := 86) tX8_of_74 rfl (fun hc74 => ?_) (fun hc74 => ?_)
                  · skip
                    refine pr_iload_n tX8_of_86 2 rfl ?_
                    refine pr_iconst (v := nI 4) tX8_of_87 rfl ?_
                    refine pr_ic_ne (pc' := 100) tX8_of_88 rfl (fun hc88 => ?_) (fun hc88 => ?_)
                    · skip
                      refine pr_aload_n tX8_of_100 0 rfl ?_
                      refine pr_geta (j := 31) tX8_of_101 rfl rfl rfl rfl ?_
                      refine pr_iload_n tX8_of_104 1 rfl ?_
                      refine pr_ial tX8_of_105 c rfl rfl (by omega) (by decide) ?_
                      refine pr_iret tX8_of_106 rfl ?_
                      rfl
                    · skip
                      exact absurd (by decide) hc88
                  · skip
                    exact absurd (by decide) hc74
                · skip
                  exact absurd (by decide) hc52
              · skip
                exact absurd (by decide) hc38
            · skip
              exact absurd (by decide) hc24
          · skip
            exact absurd (by decide) hc18
  obtain ⟨x, h1, h2⟩ := key
  rw [h1, h2]

set_option maxRecDepth 100000 in
theorem ev_X8_of_o1 (σ : pST) {n : Nat} (hn : σ.1 0 39 = nI n) {k w : Int32} (hk : k < 0 ∨ nI n ≤ k) : kX8_of σ [.inr (.inr 0), .inl k, .inl w] = some ((σ, some (.inl (-1)))) := by
  have key : ∃ x, kX8_of σ [.inr (.inr 0), .inl k, .inl w] = some x ∧ x = (σ, some (.inl (-1))) := by
    refine pR_met (post := fun x => x = (σ, some (.inl (-1)))) rfl (Nat.le_of_ble_eq_true rfl) ?_
    show pR _ _ _ _ _ _ _ _ 0 [(0, .inr (.inr 0)), (1, .inl k), (2, .inl w)] [] σ
    refine pr_iload_n tX8_of_0 1 rfl ?_
    refine pr_if_lt (pc' := 21) tX8_of_1 rfl (fun hc1 => ?_) (fun hc1 => ?_)
    · skip
      skip
      refine pr_iconst (v := -1) tX8_of_21 rfl ?_
      refine pr_iret tX8_of_22 rfl ?_
      rfl
    · skip
      skip
      refine pr_iload_n tX8_of_4 1 rfl ?_
      refine pr_aload_n tX8_of_5 0 rfl ?_
      refine pr_get0 tX8_of_6 rfl rfl rfl ?_
      refine pR_topi (y := (nI n)) (by simp [pm_ui, pm_uj, upd, vp_updL, hn]) ?_
      refine pr_ic_ge (pc' := 21) tX8_of_9 rfl (fun hc9 => ?_) (fun hc9 => ?_)
      · skip
        skip
        refine pr_iconst (v := -1) tX8_of_21 rfl ?_
        refine pr_iret tX8_of_22 rfl ?_
        rfl
      · skip
        exact absurd hk (fun z => z.elim hc1 hc9)
  obtain ⟨x, h1, h2⟩ := key
  rw [h1, h2]

set_option maxRecDepth 100000 in
theorem ev_X8_of_o2 (σ : pST) {n c : Nat} (hn : σ.1 0 39 = nI n) (hn1 : n ≤ 16) (hc : c < n) {w : Int32} (hw : w < 0 ∨ nI 5 < w) : kX8_of σ [.inr (.inr 0), .inl (nI c), .inl w] = some ((σ, some (.inl (-1)))) := by
  have key : ∃ x, kX8_of σ [.inr (.inr 0), .inl (nI c), .inl w] = some x ∧ x = (σ, some (.inl (-1))) := by
    refine pR_met (post := fun x => x = (σ, some (.inl (-1)))) rfl (Nat.le_of_ble_eq_true rfl) ?_
    show pR _ _ _ _ _ _ _ _ 0 [(0, .inr (.inr 0)), (1, .inl (nI c)), (2, .inl w)] [] σ
    refine pr_iload_n tX8_of_0 1 rfl ?_
    refine pr_if_lt (pc' := 21) tX8_of_1 rfl (fun hc1 => ?_) (fun hc1 => ?_)
    · skip
      exact absurd hc1 (nI_pos (by omega))
    · skip
      refine pr_iload_n tX8_of_4 1 rfl ?_
      refine pr_aload_n tX8_of_5 0 rfl ?_
      refine pr_get0 tX8_of_6 rfl rfl rfl ?_
      refine pR_topi (y := (nI n)) (by simp [pm_ui, pm_uj, upd, vp_updL, hn]) ?_
      refine pr_ic_ge (pc' := 21) tX8_of_9 rfl (fun hc9 => ?_) (fun hc9 => ?_)
      · skip
        exact absurd ((nI_leI (by omega) (by omega)).mp hc9) (by omega)
      · skip
        have hc9 : ¬ n ≤ c := fun z9 => hc9 ((nI_leI (by omega) (by omega)).mpr z9)
        refine pr_iload_n tX8_of_12 2 rfl ?_
        refine pr_if_lt (pc' := 21) tX8_of_13 rfl (fun hc13 => ?_) (fun hc13 => ?_)
        · skip
          skip
          refine pr_iconst (v := -1) tX8_of_21 rfl ?_
          refine pr_iret tX8_of_22 rfl ?_
          rfl
        · skip
          skip
          refine pr_iload_n tX8_of_16 2 rfl ?_
          refine pr_iconst (v := nI 5) tX8_of_17 rfl ?_
          refine pr_ic_le (pc' := 23) tX8_of_18 rfl (fun hc18 => ?_) (fun hc18 => ?_)
          · skip
            exact absurd hw (fun z => z.elim hc13 (fun z => Int32.not_le.mpr z hc18))
          · skip
            skip
            refine pr_iconst (v := -1) tX8_of_21 rfl ?_
            refine pr_iret tX8_of_22 rfl ?_
            rfl
  obtain ⟨x, h1, h2⟩ := key
  rw [h1, h2]

set_option maxRecDepth 100000 in
theorem ev_X8_event_0 (σ : pST) {m i : Nat} (hm : σ.1 0 50 = nI m) (hm1 : m ≤ 192) (hi : i < m) : kX8_event σ [.inr (.inr 0), .inl (nI i), .inl (nI 0)] = some ((σ, some (.inr (.inl (σ.2 34 i))))) := by
  have key : ∃ x, kX8_event σ [.inr (.inr 0), .inl (nI i), .inl (nI 0)] = some x ∧ x = (σ, some (.inr (.inl (σ.2 34 i)))) := by
    refine pR_met (post := fun x => x = (σ, some (.inr (.inl (σ.2 34 i))))) rfl (Nat.le_of_ble_eq_true rfl) ?_
    show pR _ _ _ _ _ _ _ _ 0 [(0, .inr (.inr 0)), (1, .inl (nI i)), (2, .inl (nI 0))] [] σ
    refine pr_iload_n tX8_event_0 1 rfl ?_
    refine pr_if_lt (pc' := 21) tX8_event_1 rfl (fun hc1 => ?_) (fun hc1 => ?_)
    · skip
      exact absurd hc1 (nI_pos (by omega))
    · skip
      refine pr_iload_n tX8_event_4 1 rfl ?_
      refine pr_aload_n tX8_event_5 0 rfl ?_
      refine pr_get0 tX8_event_6 rfl rfl rfl ?_
      refine pR_topi (y := (nI m)) (by simp [pm_ui, pm_uj, upd, vp_updL, hm]) ?_
      refine pr_ic_ge (pc' := 21) tX8_event_9 rfl (fun hc9 => ?_) (fun hc9 => ?_)
      · skip
        exact absurd ((nI_leI (by omega) (by omega)).mp hc9) (by omega)
      · skip
        have hc9 : ¬ m ≤ i := fun z9 => hc9 ((nI_leI (by omega) (by omega)).mpr z9)
        refine pr_iload_n tX8_event_12 2 rfl ?_
        refine pr_if_lt (pc' := 21) tX8_event_13 rfl (fun hc13 => ?_) (fun hc13 => ?_)
        · skip
          exact absurd hc13 (by decide)
        · skip
          refine pr_iload_n tX8_event_16 2 rfl ?_
          refine pr_iconst (v := nI 1) tX8_event_17 rfl ?_
          refine pr_ic_le (pc' := 23) tX8_event_18 rfl (fun hc18 => ?_) (fun hc18 => ?_)
          · skip
            refine pr_iload_n tX8_event_23 2 rfl ?_
            refine pr_if_ne (pc' := 36) tX8_event_24 rfl (fun hc24 => ?_) (fun hc24 => ?_)
            · skip
              exact absurd hc24 (by decide)
            · skip
              refine pr_aload_n tX8_event_27 0 rfl ?_
              refine pr_geta (j := 34) tX8_event_28 rfl rfl rfl rfl ?_
              refine pr_iload_n tX8_event_31 1 rfl ?_
              refine pr_lal tX8_event_32 i rfl rfl (by omega) (by decide) ?_
              refine pr_goto (pc' := 43) tX8_event_33 rfl ?_
              refine pr_lret tX8_event_43 rfl ?_
              rfl
          · skip
            exact absurd (by decide) hc18
  obtain ⟨x, h1, h2⟩ := key
  rw [h1, h2]

set_option maxRecDepth 100000 in
theorem ev_X8_event_1 (σ : pST) {m i : Nat} (hm : σ.1 0 50 = nI m) (hm1 : m ≤ 192) (hi : i < m) : kX8_event σ [.inr (.inr 0), .inl (nI i), .inl (nI 1)] = some ((σ, some (.inr (.inl (σ.1 35 i).toInt64)))) := by
  have key : ∃ x, kX8_event σ [.inr (.inr 0), .inl (nI i), .inl (nI 1)] = some x ∧ x = (σ, some (.inr (.inl (σ.1 35 i).toInt64))) := by
    refine pR_met (post := fun x => x = (σ, some (.inr (.inl (σ.1 35 i).toInt64)))) rfl (Nat.le_of_ble_eq_true rfl) ?_
    show pR _ _ _ _ _ _ _ _ 0 [(0, .inr (.inr 0)), (1, .inl (nI i)), (2, .inl (nI 1))] [] σ
    refine pr_iload_n tX8_event_0 1 rfl ?_
    refine pr_if_lt (pc' := 21) tX8_event_1 rfl (fun hc1 => ?_) (fun hc1 => ?_)
    · skip
      exact absurd hc1 (nI_pos (by omega))
    · skip
      refine pr_iload_n tX8_event_4 1 rfl ?_
      refine pr_aload_n tX8_event_5 0 rfl ?_
      refine pr_get0 tX8_event_6 rfl rfl rfl ?_
      refine pR_topi (y := (nI m)) (by simp [pm_ui, pm_uj, upd, vp_updL, hm]) ?_
      refine pr_ic_ge (pc' := 21) tX8_event_9 rfl (fun hc9 => ?_) (fun hc9 => ?_)
      · skip
        exact absurd ((nI_leI (by omega) (by omega)).mp hc9) (by omega)
      · skip
        have hc9 : ¬ m ≤ i := fun z9 => hc9 ((nI_leI (by omega) (by omega)).mpr z9)
        refine pr_iload_n tX8_event_12 2 rfl ?_
        refine pr_if_lt (pc' := 21) tX8_event_13 rfl (fun hc13 => ?_) (fun hc13 => ?_)
        · skip
          exact absurd hc13 (by decide)
        · skip
          refine pr_iload_n tX8_event_16 2 rfl ?_
          refine pr_iconst (v := nI 1) tX8_event_17 rfl ?_
          refine pr_ic_le (pc' := 23) tX8_event_18 rfl (fun hc18 => ?_) (fun hc18 => ?_)
          · skip
            refine pr_iload_n tX8_event_23 2 rfl ?_
            refine pr_if_ne (pc' := 36) tX8_event_24 rfl (fun hc24 => ?_) (fun hc24 => ?_)
            · skip
              refine pr_aload_n tX8_event_36 0 rfl ?_
              refine pr_geta (j := 35) tX8_event_37 rfl rfl rfl rfl ?_
              refine pr_iload_n tX8_event_40 1 rfl ?_
              refine pr_ial tX8_event_41 i rfl rfl (by omega) (by decide) ?_
              refine pr_i2l (v := (σ.1 35 i).toInt64) tX8_event_42 (rfl) ?_
              refine pr_lret tX8_event_43 rfl ?_
              rfl
            · skip
              exact absurd (by decide) hc24
          · skip
            exact absurd (by decide) hc18
  obtain ⟨x, h1, h2⟩ := key
  rw [h1, h2]

set_option maxRecDepth 100000 in
theorem ev_X8_event_o1 (σ : pST) {m : Nat} (hm : σ.1 0 50 = nI m) {k w : Int32} (hk : k < 0 ∨ nI m ≤ k) : kX8_event σ [.inr (.inr 0), .inl k, .inl w] = some ((σ, some (.inr (.inl 0)))) := by
  have key : ∃ x, kX8_event σ [.inr (.inr 0), .inl k, .inl w] = some x ∧ x = (σ, some (.inr (.inl 0))) := by
    refine pR_met (post := fun x => x = (σ, some (.inr (.inl 0)))) rfl (Nat.le_of_ble_eq_true rfl) ?_
    show pR _ _ _ _ _ _ _ _ 0 [(0, .inr (.inr 0)), (1, .inl k), (2, .inl w)] [] σ
    refine pr_iload_n tX8_event_0 1 rfl ?_
    refine pr_if_lt (pc' := 21) tX8_event_1 rfl (fun hc1 => ?_) (fun hc1 => ?_)
    · skip
      skip
      refine pr_lconst (v := 0) tX8_event_21 rfl ?_
      refine pr_lret tX8_event_22 rfl ?_
      rfl
    · skip
      skip
      refine pr_iload_n tX8_event_4 1 rfl ?_
      refine pr_aload_n tX8_event_5 0 rfl ?_
      refine pr_get0 tX8_event_6 rfl rfl rfl ?_
      refine pR_topi (y := (nI m)) (by simp [pm_ui, pm_uj, upd, vp_updL, hm]) ?_
      refine pr_ic_ge (pc' := 21) tX8_event_9 rfl (fun hc9 => ?_) (fun hc9 => ?_)
      · skip
        skip
        refine pr_lconst (v := 0) tX8_event_21 rfl ?_
        refine pr_lret tX8_event_22 rfl ?_
        rfl
      · skip
        exact absurd hk (fun z => z.elim hc1 hc9)
  obtain ⟨x, h1, h2⟩ := key
  rw [h1, h2]

set_option maxRecDepth 100000 in
theorem ev_X8_event_o2 (σ : pST) {m i : Nat} (hm : σ.1 0 50 = nI m) (hm1 : m ≤ 192) (hi : i < m) {w : Int32} (hw : w < 0 ∨ nI 1 < w) : kX8_event σ [.inr (.inr 0), .inl (nI i), .inl w] = some ((σ, some (.inr (.inl 0)))) := by
  have key : ∃ x, kX8_event σ [.inr (.inr 0), .inl (nI i), .inl w] = some x ∧ x = (σ, some (.inr (.inl 0))) := by
    refine pR_met (post := fun x => x = (σ, some (.inr (.inl 0)))) rfl (Nat.le_of_ble_eq_true rfl) ?_
    show pR _ _ _ _ _ _ _ _ 0 [(0, .inr (.inr 0)), (1, .inl (nI i)), (2, .inl w)] [] σ
    refine pr_iload_n tX8_event_0 1 rfl ?_
    refine pr_if_lt (pc' := 21) tX8_event_1 rfl (fun hc1 => ?_) (fun hc1 => ?_)
    · skip
      exact absurd hc1 (nI_pos (by omega))
    · skip
      refine pr_iload_n tX8_event_4 1 rfl ?_
      refine pr_aload_n tX8_event_5 0 rfl ?_
      refine pr_get0 tX8_event_6 rfl rfl rfl ?_
      refine pR_topi (y := (nI m)) (by simp [pm_ui, pm_uj, upd, vp_updL, hm]) ?_
      refine pr_ic_ge (pc' := 21) tX8_event_9 rfl (fun hc9 => ?_) (fun hc9 => ?_)
      · skip
        exact absurd ((nI_leI (by omega) (by omega)).mp hc9) (by omega)
      · skip
        have hc9 : ¬ m ≤ i := fun z9 => hc9 ((nI_leI (by omega) (by omega)).mpr z9)
        refine pr_iload_n tX8_event_12 2 rfl ?_
        refine pr_if_lt (pc' := 21) tX8_event_13 rfl (fun hc13 => ?_) (fun hc13 => ?_)
        · skip
          skip
          refine pr_lconst (v := 0) tX8_event_21 rfl ?_
          refine pr_lret tX8_event_22 rfl ?_
          rfl
        · skip
          skip
          refine pr_iload_n tX8_event_16 2 rfl ?_
          refine pr_iconst (v := nI 1) tX8_event_17 rfl ?_
          refine pr_ic_le (pc' := 23) tX8_event_18 rfl (fun hc18 => ?_) (fun hc18 => ?_)
          · skip
            exact absurd hw (fun z => z.elim hc13 (fun z => Int32.not_le.mpr z hc18))
          · skip
            skip
            refine pr_lconst (v := 0) tX8_event_21 rfl ?_
            refine pr_lret tX8_event_22 rfl ?_
            rfl
  obtain ⟨x, h1, h2⟩ := key
  rw [h1, h2]

set_option maxRecDepth 100000 in
theorem ev_X1_tellCall_0 (σ : pST) {n c : Nat} (hn : σ.1 9 2 = nI n) (hn1 : n ≤ 16) (hc : c < n) : kX1_tellCall σ [.inr (.inr 9), .inl (nI c), .inl (nI 0)] = some ((σ, some (.inl (σ.1 (16 + 8 * c) 1)))) := by
  have key : ∃ x, kX1_tellCall σ [.inr (.inr 9), .inl (nI c), .inl (nI 0)] = some x ∧ x = (σ, some (.inl (σ.1 (16 + 8 * c) 1))) := by
    refine pR_met (post := fun x => x = (σ, some (.inl (σ.1 (16 + 8 * c) 1)))) rfl (Nat.le_of_ble_eq_true rfl) ?_
    show pR _ _ _ _ _ _ _ _ 0 [(0, .inr (.inr 9)), (1, .inl (nI c)), (2, .inl (nI 0))] [] σ
    refine pr_iload_n tX1_tellCall_0 1 rfl ?_
    refine pr_if_lt (pc' := 12) tX1_tellCall_1 rfl (fun hc1 => ?_) (fun hc1 => ?_)
    · skip
      exact absurd hc1 (nI_pos (by omega))
    · skip
      refine pr_iload_n tX1_tellCall_4 1 rfl ?_
      refine pr_aload_n tX1_tellCall_5 0 rfl ?_
      refine pr_get0 tX1_tellCall_6 rfl rfl rfl ?_
      refine pR_topi (y := (nI n)) (by simp [pm_ui, pm_uj, upd, vp_updL, hn]) ?_
      refine pr_ic_lt (pc' := 14) tX1_tellCall_9 rfl (fun hc9 => ?_) (fun hc9 => ?_)
      · skip
        have hc9 : c < n := (nI_ltI (by omega) (by omega)).mp hc9
        refine pr_aload_n tX1_tellCall_14 0 rfl ?_
        refine pr_geta (j := 15) tX1_tellCall_15 rfl rfl rfl rfl ?_
        refine pr_iload_n tX1_tellCall_18 1 rfl ?_
        refine pr_aal (a := 16 + 8 * c) tX1_tellCall_19 c rfl rfl (by omega) (by decide) rfl ?_
        refine pr_astore_n (L' := [(3, .inr (.inr (16 + 8 * c))), (0, .inr (.inr 9)), (1, .inl (nI c)), (2, .inl (nI 0))]) tX1_tellCall_20 (by decide) rfl ?_
        refine pr_iload_n tX1_tellCall_21 3 rfl ?_
        refine pr_tsI (off := 38) (pc' := 60) tX1_tellCall_22 (by decide) rfl rfl ?_
        refine pr_aload_n tX1_tellCall_60 0 rfl ?_
        refine pr_get0 tX1_tellCall_61 rfl (isA9 (show c < 16 by omega)).1 rfl ?_
        refine pr_iret tX1_tellCall_64 rfl ?_
        rfl
      · skip
        exact absurd ((nI_ltI (by omega) (by omega)).mpr hc) hc9
  obtain ⟨x, h1, h2⟩ := key
  rw [h1, h2]

set_option maxRecDepth 100000 in
theorem ev_X1_tellCall_1 (σ : pST) {n c : Nat} (hn : σ.1 9 2 = nI n) (hn1 : n ≤ 16) (hc : c < n) : kX1_tellCall σ [.inr (.inr 9), .inl (nI c), .inl (nI 1)] = some ((σ, some (.inl (σ.1 (16 + 8 * c) 3)))) := by
  have key : ∃ x, kX1_tellCall σ [.inr (.inr 9), .inl (nI c), .inl (nI 1)] = some x ∧ x = (σ, some (.inl (σ.1 (16 + 8 * c) 3))) := by
    refine pR_met (post := fun x => x = (σ, some (.inl (σ.1 (16 + 8 * c) 3)))) rfl (Nat.le_of_ble_eq_true rfl) ?_
    show pR _ _ _ _ _ _ _ _ 0 [(0, .inr (.inr 9)), (1, .inl (nI c)), (2, .inl (nI 1))] [] σ
    refine pr_iload_n tX1_tellCall_0 1 rfl ?_
    refine pr_if_lt (pc' := 12) tX1_tellCall_1 rfl (fun hc1 => ?_) (fun hc1 => ?_)
    · skip
      exact absurd hc1 (nI_pos (by omega))
    · skip
      refine pr_iload_n tX1_tellCall_4 1 rfl ?_
      refine pr_aload_n tX1_tellCall_5 0 rfl ?_
      refine pr_get0 tX1_tellCall_6 rfl rfl rfl ?_
      refine pR_topi (y := (nI n)) (by simp [pm_ui, pm_uj, upd, vp_updL, hn]) ?_
      refine pr_ic_lt (pc' := 14) tX1_tellCall_9 rfl (fun hc9 => ?_) (fun hc9 => ?_)
      · skip
        have hc9 : c < n := (nI_ltI (by omega) (by omega)).mp hc9
        refine pr_aload_n tX1_tellCall_14 0 rfl ?_
        refine pr_geta (j := 15) tX1_tellCall_15 rfl rfl rfl rfl ?_
        refine pr_iload_n tX1_tellCall_18 1 rfl ?_
        refine pr_aal (a := 16 + 8 * c) tX1_tellCall_19 c rfl rfl (by omega) (by decide) rfl ?_
        refine pr_astore_n (L' := [(3, .inr (.inr (16 + 8 * c))), (0, .inr (.inr 9)), (1, .inl (nI c)), (2, .inl (nI 1))]) tX1_tellCall_20 (by decide) rfl ?_
        refine pr_iload_n tX1_tellCall_21 3 rfl ?_
        refine pr_tsI (off := 43) (pc' := 65) tX1_tellCall_22 (by decide) rfl rfl ?_
        refine pr_aload_n tX1_tellCall_65 0 rfl ?_
        refine pr_get0 tX1_tellCall_66 rfl (isA9 (show c < 16 by omega)).1 rfl ?_
        refine pr_iret tX1_tellCall_69 rfl ?_
        rfl
      · skip
        exact absurd ((nI_ltI (by omega) (by omega)).mpr hc) hc9
  obtain ⟨x, h1, h2⟩ := key
  rw [h1, h2]

set_option maxRecDepth 100000 in
theorem ev_X1_tellCall_2 (σ : pST) {n c : Nat} (hn : σ.1 9 2 = nI n) (hn1 : n ≤ 16) (hc : c < n) {b : Bool} (hb : σ.1 (16 + 8 * c) 4 = cond b 1 0) : kX1_tellCall σ [.inr (.inr 9), .inl (nI c), .inl (nI 2)] = some ((σ, some (.inl (cond b 1 0)))) := by
  have key : ∃ x, kX1_tellCall σ [.inr (.inr 9), .inl (nI c), .inl (nI 2)] = some x ∧ x = (σ, some (.inl (cond b 1 0))) := by
    refine pR_met (post := fun x => x = (σ, some (.inl (cond b 1 0)))) rfl (Nat.le_of_ble_eq_true rfl) ?_
    show pR _ _ _ _ _ _ _ _ 0 [(0, .inr (.inr 9)), (1, .inl (nI c)), (2, .inl (nI 2))] [] σ
    refine pr_iload_n tX1_tellCall_0 1 rfl ?_
    refine pr_if_lt (pc' := 12) tX1_tellCall_1 rfl (fun hc1 => ?_) (fun hc1 => ?_)
    · skip
      exact absurd hc1 (nI_pos (by omega))
    · skip
      refine pr_iload_n tX1_tellCall_4 1 rfl ?_
      refine pr_aload_n tX1_tellCall_5 0 rfl ?_
      refine pr_get0 tX1_tellCall_6 rfl rfl rfl ?_
      refine pR_topi (y := (nI n)) (by simp [pm_ui, pm_uj, upd, vp_updL, hn]) ?_
      refine pr_ic_lt (pc' := 14) tX1_tellCall_9 rfl (fun hc9 => ?_) (fun hc9 => ?_)
      · skip
        have hc9 : c < n := (nI_ltI (by omega) (by omega)).mp hc9
        refine pr_aload_n tX1_tellCall_14 0 rfl ?_
        refine pr_geta (j := 15) tX1_tellCall_15 rfl rfl rfl rfl ?_
        refine pr_iload_n tX1_tellCall_18 1 rfl ?_
        refine pr_aal (a := 16 + 8 * c) tX1_tellCall_19 c rfl rfl (by omega) (by decide) rfl ?_
        refine pr_astore_n (L' := [(3, .inr (.inr (16 + 8 * c))), (0, .inr (.inr 9)), (1, .inl (nI c)), (2, .inl (nI 2))]) tX1_tellCall_20 (by decide) rfl ?_
        refine pr_iload_n tX1_tellCall_21 3 rfl ?_
        refine pr_tsI (off := 48) (pc' := 70) tX1_tellCall_22 (by decide) rfl rfl ?_
        refine pr_aload_n tX1_tellCall_70 0 rfl ?_
        refine pr_get1 tX1_tellCall_71 rfl (isA9 (show c < 16 by omega)).1 rfl ?_
        refine pr_if_eq (pc' := 81) tX1_tellCall_74 rfl (fun hc74 => ?_) (fun hc74 => ?_)
        · skip
          skip
          refine pr_iconst (v := nI 0) tX1_tellCall_81 rfl ?_
          refine pr_iret tX1_tellCall_82 rfl ?_
          cases b with
          | true => rw [hb] at hc74; exact absurd hc74 (by decide)
          | false => rfl
        · skip
          skip
          refine pr_iconst (v := nI 1) tX1_tellCall_77 rfl ?_
          refine pr_goto (pc' := 82) tX1_tellCall_78 rfl ?_
          refine pr_iret tX1_tellCall_82 rfl ?_
          cases b with
          | true => rfl
          | false => exact absurd hb hc74
      · skip
        exact absurd ((nI_ltI (by omega) (by omega)).mpr hc) hc9
  obtain ⟨x, h1, h2⟩ := key
  rw [h1, h2]

set_option maxRecDepth 100000 in
theorem ev_X1_tellCall_3 (σ : pST) {n c : Nat} (hn : σ.1 9 2 = nI n) (hn1 : n ≤ 16) (hc : c < n) : kX1_tellCall σ [.inr (.inr 9), .inl (nI c), .inl (nI 3)] = some ((σ, some (.inl (σ.1 (16 + 8 * c) 5)))) := by
  have key : ∃ x, kX1_tellCall σ [.inr (.inr 9), .inl (nI c), .inl (nI 3)] = some x ∧ x = (σ, some (.inl (σ.1 (16 + 8 * c) 5))) := by
    refine pR_met (post := fun x => x = (σ, some (.inl (σ.1 (16 + 8 * c) 5)))) rfl (Nat.le_of_ble_eq_true rfl) ?_
    show pR _ _ _ _ _ _ _ _ 0 [(0, .inr (.inr 9)), (1, .inl (nI c)), (2, .inl (nI 3))] [] σ
    refine pr_iload_n tX1_tellCall_0 1 rfl ?_
    refine pr_if_lt (pc' := 12) tX1_tellCall_1 rfl (fun hc1 => ?_) (fun hc1 => ?_)
    · skip
      exact absurd hc1 (nI_pos (by omega))
    · skip
      refine pr_iload_n tX1_tellCall_4 1 rfl ?_
      refine pr_aload_n tX1_tellCall_5 0 rfl ?_
      refine pr_get0 tX1_tellCall_6 rfl rfl rfl ?_
      refine pR_topi (y := (nI n)) (by simp [pm_ui, pm_uj, upd, vp_updL, hn]) ?_
      refine pr_ic_lt (pc' := 14) tX1_tellCall_9 rfl (fun hc9 => ?_) (fun hc9 => ?_)
      · skip
        have hc9 : c < n := (nI_ltI (by omega) (by omega)).mp hc9
        refine pr_aload_n tX1_tellCall_14 0 rfl ?_
        refine pr_geta (j := 15) tX1_tellCall_15 rfl rfl rfl rfl ?_
        refine pr_iload_n tX1_tellCall_18 1 rfl ?_
        refine pr_aal (a := 16 + 8 * c) tX1_tellCall_19 c rfl rfl (by omega) (by decide) rfl ?_
        refine pr_astore_n (L' := [(3, .inr (.inr (16 + 8 * c))), (0, .inr (.inr 9)), (1, .inl (nI c)), (2, .inl (nI 3))]) tX1_tellCall_20 (by decide) rfl ?_
        refine pr_iload_n tX1_tellCall_21 3 rfl ?_
        refine pr_tsI (off := 61) (pc' := 83) tX1_tellCall_22 (by decide) rfl rfl ?_
        refine pr_aload_n tX1_tellCall_83 0 rfl ?_
        refine pr_get0 tX1_tellCall_84 rfl (isA9 (show c < 16 by omega)).1 rfl ?_
        refine pr_iret tX1_tellCall_87 rfl ?_
        rfl
      · skip
        exact absurd ((nI_ltI (by omega) (by omega)).mpr hc) hc9
  obtain ⟨x, h1, h2⟩ := key
  rw [h1, h2]

set_option maxRecDepth 100000 in
theorem ev_X1_tellCall_4 (σ : pST) {n c : Nat} (hn : σ.1 9 2 = nI n) (hn1 : n ≤ 16) (hc : c < n) {v : Int32} (hv : kX0_countWritten σ [.inr (.inr (16 + 8 * c))] = some (σ, some (.inl v))) : kX1_tellCall σ [.inr (.inr 9), .inl (nI c), .inl (nI 4)] = some ((σ, some (.inl v))) := by
  have key : ∃ x, kX1_tellCall σ [.inr (.inr 9), .inl (nI c), .inl (nI 4)] = some x ∧ x = (σ, some (.inl v)) := by
    refine pR_met (post := fun x => x = (σ, some (.inl v))) rfl (Nat.le_of_ble_eq_true rfl) ?_
    show pR _ _ _ _ _ _ _ _ 0 [(0, .inr (.inr 9)), (1, .inl (nI c)), (2, .inl (nI 4))] [] σ
    refine pr_iload_n tX1_tellCall_0 1 rfl ?_
    refine pr_if_lt (pc' := 12) tX1_tellCall_1 rfl (fun hc1 => ?_) (fun hc1 => ?_)
    · skip
      exact absurd hc1 (nI_pos (by omega))
    · skip
      refine pr_iload_n tX1_tellCall_4 1 rfl ?_
      refine pr_aload_n tX1_tellCall_5 0 rfl ?_
      refine pr_get0 tX1_tellCall_6 rfl rfl rfl ?_
      refine pR_topi (y := (nI n)) (by simp [pm_ui, pm_uj, upd, vp_updL, hn]) ?_
      refine pr_ic_lt (pc' := 14) tX1_tellCall_9 rfl (fun hc9 => ?_) (fun hc9 => ?_)
      · skip
        have hc9 : c < n := (nI_ltI (by omega) (by omega)).mp hc9
        refine pr_aload_n tX1_tellCall_14 0 rfl ?_
        refine pr_geta (j := 15) tX1_tellCall_15 rfl rfl rfl rfl ?_
        refine pr_iload_n tX1_tellCall_18 1 rfl ?_
        refine pr_aal (a := 16 + 8 * c) tX1_tellCall_19 c rfl rfl (by omega) (by decide) rfl ?_
        refine pr_astore_n (L' := [(3, .inr (.inr (16 + 8 * c))), (0, .inr (.inr 9)), (1, .inl (nI c)), (2, .inl (nI 4))]) tX1_tellCall_20 (by decide) rfl ?_
        refine pr_iload_n tX1_tellCall_21 3 rfl ?_
        refine pr_tsI (off := 66) (pc' := 88) tX1_tellCall_22 (by decide) rfl rfl ?_
        refine pr_aload_n tX1_tellCall_88 0 rfl ?_
        refine pr_callV tX1_tellCall_89 rfl ⟨Nat.le_of_ble_eq_true rfl, Nat.le_of_ble_eq_true rfl, rfl⟩ (hv) ?_
        refine pR_eq (st' := [.inl v]) rfl rfl ?_
        refine pr_iret tX1_tellCall_92 rfl ?_
        rfl
      · skip
        exact absurd ((nI_ltI (by omega) (by omega)).mpr hc) hc9
  obtain ⟨x, h1, h2⟩ := key
  rw [h1, h2]

set_option maxRecDepth 100000 in
theorem ev_X1_tellCall_5 (σ : pST) {n c : Nat} (hn : σ.1 9 2 = nI n) (hn1 : n ≤ 16) (hc : c < n) : kX1_tellCall σ [.inr (.inr 9), .inl (nI c), .inl (nI 5)] = some ((σ, some (.inl (σ.1 (16 + 8 * c) 7)))) := by
  have key : ∃ x, kX1_tellCall σ [.inr (.inr 9), .inl (nI c), .inl (nI 5)] = some x ∧ x = (σ, some (.inl (σ.1 (16 + 8 * c) 7))) := by
    refine pR_met (post := fun x => x = (σ, some (.inl (σ.1 (16 + 8 * c) 7)))) rfl (Nat.le_of_ble_eq_true rfl) ?_
    show pR _ _ _ _ _ _ _ _ 0 [(0, .inr (.inr 9)), (1, .inl (nI c)), (2, .inl (nI 5))] [] σ
    refine pr_iload_n tX1_tellCall_0 1 rfl ?_
    refine pr_if_lt (pc' := 12) tX1_tellCall_1 rfl (fun hc1 => ?_) (fun hc1 => ?_)
    · skip
      exact absurd hc1 (nI_pos (by omega))
    · skip
      refine pr_iload_n tX1_tellCall_4 1 rfl ?_
      refine pr_aload_n tX1_tellCall_5 0 rfl ?_
      refine pr_get0 tX1_tellCall_6 rfl rfl rfl ?_
      refine pR_topi (y := (nI n)) (by simp [pm_ui, pm_uj, upd, vp_updL, hn]) ?_
      refine pr_ic_lt (pc' := 14) tX1_tellCall_9 rfl (fun hc9 => ?_) (fun hc9 => ?_)
      · skip
        have hc9 : c < n := (nI_ltI (by omega) (by omega)).mp hc9
        refine pr_aload_n tX1_tellCall_14 0 rfl ?_
        refine pr_geta (j := 15) tX1_tellCall_15 rfl rfl rfl rfl ?_
        refine pr_iload_n tX1_tellCall_18 1 rfl ?_
        refine pr_aal (a := 16 + 8 * c) tX1_tellCall_19 c rfl rfl (by omega) (by decide) rfl ?_
        refine pr_astore_n (L' := [(3, .inr (.inr (16 + 8 * c))), (0, .inr (.inr 9)), (1, .inl (nI c)), (2, .inl (nI 5))]) tX1_tellCall_20 (by decide) rfl ?_
        refine pr_iload_n tX1_tellCall_21 3 rfl ?_
        refine pr_tsI (off := 71) (pc' := 93) tX1_tellCall_22 (by decide) rfl rfl ?_
        refine pr_aload_n tX1_tellCall_93 0 rfl ?_
        refine pr_get0 tX1_tellCall_94 rfl (isA9 (show c < 16 by omega)).1 rfl ?_
        refine pr_iret tX1_tellCall_97 rfl ?_
        rfl
      · skip
        exact absurd ((nI_ltI (by omega) (by omega)).mpr hc) hc9
  obtain ⟨x, h1, h2⟩ := key
  rw [h1, h2]

set_option maxRecDepth 100000 in
theorem ev_X1_tellCall_o1 (σ : pST) {n : Nat} (hn : σ.1 9 2 = nI n) {k w : Int32} (hk : k < 0 ∨ nI n ≤ k) : kX1_tellCall σ [.inr (.inr 9), .inl k, .inl w] = some ((σ, some (.inl (-1)))) := by
  have key : ∃ x, kX1_tellCall σ [.inr (.inr 9), .inl k, .inl w] = some x ∧ x = (σ, some (.inl (-1))) := by
    refine pR_met (post := fun x => x = (σ, some (.inl (-1)))) rfl (Nat.le_of_ble_eq_true rfl) ?_
    show pR _ _ _ _ _ _ _ _ 0 [(0, .inr (.inr 9)), (1, .inl k), (2, .inl w)] [] σ
    refine pr_iload_n tX1_tellCall_0 1 rfl ?_
    refine pr_if_lt (pc' := 12) tX1_tellCall_1 rfl (fun hc1 => ?_) (fun hc1 => ?_)
    · skip
      skip
      refine pr_iconst (v := -1) tX1_tellCall_12 rfl ?_
      refine pr_iret tX1_tellCall_13 rfl ?_
      rfl
    · skip
      skip
      refine pr_iload_n tX1_tellCall_4 1 rfl ?_
      refine pr_aload_n tX1_tellCall_5 0 rfl ?_
      refine pr_get0 tX1_tellCall_6 rfl rfl rfl ?_
      refine pR_topi (y := (nI n)) (by simp [pm_ui, pm_uj, upd, vp_updL, hn]) ?_
      refine pr_ic_lt (pc' := 14) tX1_tellCall_9 rfl (fun hc9 => ?_) (fun hc9 => ?_)
      · skip
        exact absurd hk (fun z => z.elim hc1 (fun z => Int32.not_lt.mpr z hc9))
      · skip
        skip
        refine pr_iconst (v := -1) tX1_tellCall_12 rfl ?_
        refine pr_iret tX1_tellCall_13 rfl ?_
        rfl
  obtain ⟨x, h1, h2⟩ := key
  rw [h1, h2]

set_option maxRecDepth 100000 in
theorem ev_X1_tellCall_o2 (σ : pST) {n c : Nat} (hn : σ.1 9 2 = nI n) (hn1 : n ≤ 16) (hc : c < n) {w : Int32} (hw : w.toInt < 0 ∨ 5 < w.toInt) : kX1_tellCall σ [.inr (.inr 9), .inl (nI c), .inl w] = some ((σ, some (.inl (-1)))) := by
  have key : ∃ x, kX1_tellCall σ [.inr (.inr 9), .inl (nI c), .inl w] = some x ∧ x = (σ, some (.inl (-1))) := by
    refine pR_met (post := fun x => x = (σ, some (.inl (-1)))) rfl (Nat.le_of_ble_eq_true rfl) ?_
    show pR _ _ _ _ _ _ _ _ 0 [(0, .inr (.inr 9)), (1, .inl (nI c)), (2, .inl w)] [] σ
    refine pr_iload_n tX1_tellCall_0 1 rfl ?_
    refine pr_if_lt (pc' := 12) tX1_tellCall_1 rfl (fun hc1 => ?_) (fun hc1 => ?_)
    · skip
      exact absurd hc1 (nI_pos (by omega))
    · skip
      refine pr_iload_n tX1_tellCall_4 1 rfl ?_
      refine pr_aload_n tX1_tellCall_5 0 rfl ?_
      refine pr_get0 tX1_tellCall_6 rfl rfl rfl ?_
      refine pR_topi (y := (nI n)) (by simp [pm_ui, pm_uj, upd, vp_updL, hn]) ?_
      refine pr_ic_lt (pc' := 14) tX1_tellCall_9 rfl (fun hc9 => ?_) (fun hc9 => ?_)
      · skip
        have hc9 : c < n := (nI_ltI (by omega) (by omega)).mp hc9
        refine pr_aload_n tX1_tellCall_14 0 rfl ?_
        refine pr_geta (j := 15) tX1_tellCall_15 rfl rfl rfl rfl ?_
        refine pr_iload_n tX1_tellCall_18 1 rfl ?_
        refine pr_aal (a := 16 + 8 * c) tX1_tellCall_19 c rfl rfl (by omega) (by decide) rfl ?_
        refine pr_astore_n (L' := [(3, .inr (.inr (16 + 8 * c))), (0, .inr (.inr 9)), (1, .inl (nI c)), (2, .inl w)]) tX1_tellCall_20 (by decide) rfl ?_
        refine pr_iload_n tX1_tellCall_21 3 rfl ?_
        refine pr_tsO (pc' := 98) tX1_tellCall_22 (hw) rfl ?_
        refine pr_iconst (v := -1) tX1_tellCall_98 rfl ?_
        refine pr_iret tX1_tellCall_99 rfl ?_
        rfl
      · skip
        exact absurd ((nI_ltI (by omega) (by omega)).mpr hc) hc9
  obtain ⟨x, h1, h2⟩ := key
  rw [h1, h2]

set_option maxRecDepth 100000 in
theorem ev_X7_of (σ : pST) {c w v : Int32} (h : kX1_tellCall σ [.inr (.inr 9), .inl c, .inl w] = some (σ, some (.inl v))) : kX7_of σ [.inr (.inr 0), .inl c, .inl w] = some ((σ, some (.inl v))) := by
  have key : ∃ x, kX7_of σ [.inr (.inr 0), .inl c, .inl w] = some x ∧ x = (σ, some (.inl v)) := by
    refine pR_met (post := fun x => x = (σ, some (.inl v))) rfl (Nat.le_of_ble_eq_true rfl) ?_
    show pR _ _ _ _ _ _ _ _ 0 [(0, .inr (.inr 0)), (1, .inl c), (2, .inl w)] [] σ
    refine pr_aload_n tX7_of_0 0 rfl ?_
    refine pr_geta (j := 8) tX7_of_1 rfl rfl rfl rfl ?_
    refine pr_geta (j := 9) tX7_of_4 rfl rfl rfl rfl ?_
    refine pr_iload_n tX7_of_7 1 rfl ?_
    refine pr_iload_n tX7_of_8 2 rfl ?_
    refine pr_callV tX7_of_9 rfl ⟨Nat.le_of_ble_eq_true rfl, Nat.le_of_ble_eq_true rfl, rfl⟩ (h) ?_
    refine pR_eq (st' := [.inl v]) rfl rfl ?_
    refine pr_iret tX7_of_12 rfl ?_
    rfl
  obtain ⟨x, h1, h2⟩ := key
  rw [h1, h2]

set_option maxRecDepth 100000 in
theorem ev_X7_event (σ : pST) {c w : Int32} {v : Int64} (h : kX1_tellEvent σ [.inr (.inr 9), .inl c, .inl w] = some (σ, some (.inr (.inl v)))) : kX7_event σ [.inr (.inr 0), .inl c, .inl w] = some ((σ, some (.inr (.inl v)))) := by
  have key : ∃ x, kX7_event σ [.inr (.inr 0), .inl c, .inl w] = some x ∧ x = (σ, some (.inr (.inl v))) := by
    refine pR_met (post := fun x => x = (σ, some (.inr (.inl v)))) rfl (Nat.le_of_ble_eq_true rfl) ?_
    show pR _ _ _ _ _ _ _ _ 0 [(0, .inr (.inr 0)), (1, .inl c), (2, .inl w)] [] σ
    refine pr_aload_n tX7_event_0 0 rfl ?_
    refine pr_geta (j := 8) tX7_event_1 rfl rfl rfl rfl ?_
    refine pr_geta (j := 9) tX7_event_4 rfl rfl rfl rfl ?_
    refine pr_iload_n tX7_event_7 1 rfl ?_
    refine pr_iload_n tX7_event_8 2 rfl ?_
    refine pr_callV tX7_event_9 rfl ⟨Nat.le_of_ble_eq_true rfl, Nat.le_of_ble_eq_true rfl, rfl⟩ (h) ?_
    refine pR_eq (st' := [.inr (.inl v)]) rfl rfl ?_
    refine pr_lret tX7_event_12 rfl ?_
    rfl
  obtain ⟨x, h1, h2⟩ := key
  rw [h1, h2]

set_option maxRecDepth 100000 in
theorem ev_X0_countWritten (σ : pST) {c : Nat} {v : Int32} (hc : c < 16) (h : kJ6_bitCount_0f7a4 σ [.inl (σ.1 (16 + 8 * c) 12)] = some (σ, some (.inl v))) : kX0_countWritten σ [.inr (.inr (16 + 8 * c))] = some ((σ, some (.inl v))) := by
  have key : ∃ x, kX0_countWritten σ [.inr (.inr (16 + 8 * c))] = some x ∧ x = (σ, some (.inl v)) := by
    refine pR_met (post := fun x => x = (σ, some (.inl v))) (isA9 hc).1 (Nat.le_of_ble_eq_true rfl) ?_
    show pR _ _ _ _ _ _ _ _ 0 [(0, .inr (.inr (16 + 8 * c)))] [] σ
    refine pr_aload_n tX0_countWritten_0 0 rfl ?_
    refine pr_get0 tX0_countWritten_1 rfl (isA9 (show c < 16 by omega)).1 rfl ?_
    refine pr_callS tX0_countWritten_4 rfl ⟨Nat.le_of_ble_eq_true rfl, Nat.le_of_ble_eq_true rfl, rfl⟩ (h) ?_
    refine pR_eq (st' := [.inl v]) rfl rfl ?_
    refine pr_iret tX0_countWritten_7 rfl ?_
    rfl
  obtain ⟨x, h1, h2⟩ := key
  rw [h1, h2]
