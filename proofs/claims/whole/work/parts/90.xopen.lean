/-! ===== Workers.open ===== -/
def opnW (σ : pST) (sz bd : Nat) : pST := (filI (filI (filI (filI (pm_ui (pm_ui (pm_ui (pm_ui (pm_ui (pm_ui (pm_ui (pm_ui (pm_ui (pm_ui ((opnB σ 9).1) 144 0 (nI 0)) 8 2 (nI 0)) 8 3 (nI 0)) 8 4 (nI 0)) 8 5 (nI 0)) 8 6 (nI 0)) 8 7 (nI sz)) 8 8 (nI bd)) 8 9 (nI 0)) 8 10 (nI 0)) 147 16 (nI 0)) 148 16 (-1)) 149 16 (nI 0)) 150 4 (nI 0), (opnB σ 9).2)
set_option maxRecDepth 100000 in
theorem ev_X6_open (σ : pST) {sz bd : Nat} : kX6_open σ [.inr (.inr 8), .inr (.inr 2), .inr (.inr 1), .inl (nI sz), .inl (nI bd)] = some ((opnW σ sz bd, none)) := by
  have key : ∃ x, kX6_open σ [.inr (.inr 8), .inr (.inr 2), .inr (.inr 1), .inl (nI sz), .inl (nI bd)] = some x ∧ x = (opnW σ sz bd, none) := by
    refine pR_met (post := fun x => x = (opnW σ sz bd, none)) rfl (Nat.le_of_ble_eq_true rfl) ?_
    show pR _ _ _ _ _ _ _ _ 0 [(0, .inr (.inr 8)), (1, .inr (.inr 2)), (2, .inr (.inr 1)), (3, .inl (nI sz)), (4, .inl (nI bd))] [] σ
    refine pr_aload_n tX6_open_0 0 rfl ?_
    refine pr_geta (j := 9) tX6_open_1 rfl rfl rfl rfl ?_
    refine pr_aload_n tX6_open_4 1 rfl ?_
    refine pr_aload_n tX6_open_5 2 rfl ?_
    refine pr_callV tX6_open_6 rfl ⟨Nat.le_of_ble_eq_true rfl, Nat.le_of_ble_eq_true rfl, rfl⟩ (ev_X1_open σ (Or.inl rfl)) ?_
    refine pR_eq (st' := []) rfl rfl ?_
    refine pr_aload_n tX6_open_9 0 rfl ?_
    refine pr_geta (j := 144) tX6_open_10 rfl rfl rfl rfl ?_
    refine pr_iconst (v := nI 0) tX6_open_13 rfl ?_
    refine pr_put0 tX6_open_14 rfl rfl rfl ?_
    obtain ⟨σ1, eσ1⟩ : ∃ z : pST, z = (pm_ui (opnB σ 9).1 144 0 (nI 0), (opnB σ 9).2) := ⟨_, rfl⟩
    rw [← eσ1]
    refine pr_aload_n tX6_open_17 0 rfl ?_
    refine pr_iconst (v := nI 0) tX6_open_18 rfl ?_
    refine pr_put0 tX6_open_19 rfl rfl rfl ?_
    obtain ⟨σ2, eσ2⟩ : ∃ z : pST, z = (pm_ui σ1.1 8 2 (nI 0), σ1.2) := ⟨_, rfl⟩
    rw [← eσ2]
    refine pr_aload_n tX6_open_22 0 rfl ?_
    refine pr_iconst (v := nI 0) tX6_open_23 rfl ?_
    refine pr_put0 tX6_open_24 rfl rfl rfl ?_
    obtain ⟨σ3, eσ3⟩ : ∃ z : pST, z = (pm_ui σ2.1 8 3 (nI 0), σ2.2) := ⟨_, rfl⟩
    rw [← eσ3]
    refine pr_aload_n tX6_open_27 0 rfl ?_
    refine pr_iconst (v := nI 0) tX6_open_28 rfl ?_
    refine pr_put0 tX6_open_29 rfl rfl rfl ?_
    obtain ⟨σ4, eσ4⟩ : ∃ z : pST, z = (pm_ui σ3.1 8 4 (nI 0), σ3.2) := ⟨_, rfl⟩
    rw [← eσ4]
    refine pr_aload_n tX6_open_32 0 rfl ?_
    refine pr_iconst (v := nI 0) tX6_open_33 rfl ?_
    refine pr_put0 tX6_open_34 rfl rfl rfl ?_
    obtain ⟨σ5, eσ5⟩ : ∃ z : pST, z = (pm_ui σ4.1 8 5 (nI 0), σ4.2) := ⟨_, rfl⟩
    rw [← eσ5]
    refine pr_aload_n tX6_open_37 0 rfl ?_
    refine pr_iconst (v := nI 0) tX6_open_38 rfl ?_
    refine pr_put1 tX6_open_39 rfl rfl rfl (by decide) ?_
    obtain ⟨σ6, eσ6⟩ : ∃ z : pST, z = (pm_ui σ5.1 8 6 (nI 0), σ5.2) := ⟨_, rfl⟩
    rw [← eσ6]
    refine pr_aload_n tX6_open_42 0 rfl ?_
    refine pr_iload_n tX6_open_43 3 rfl ?_
    refine pr_put0 tX6_open_44 rfl rfl rfl ?_
    obtain ⟨σ7, eσ7⟩ : ∃ z : pST, z = (pm_ui σ6.1 8 7 (nI sz), σ6.2) := ⟨_, rfl⟩
    rw [← eσ7]
    refine pr_aload_n tX6_open_47 0 rfl ?_
    refine pr_iload tX6_open_48 4 rfl ?_
    refine pr_put0 tX6_open_50 rfl rfl rfl ?_
    obtain ⟨σ8, eσ8⟩ : ∃ z : pST, z = (pm_ui σ7.1 8 8 (nI bd), σ7.2) := ⟨_, rfl⟩
    rw [← eσ8]
    refine pr_aload_n tX6_open_53 0 rfl ?_
    refine pr_iconst (v := nI 0) tX6_open_54 rfl ?_
    refine pr_put0 tX6_open_55 rfl rfl rfl ?_
    obtain ⟨σ9, eσ9⟩ : ∃ z : pST, z = (pm_ui σ8.1 8 9 (nI 0), σ8.2) := ⟨_, rfl⟩
    rw [← eσ9]
    refine pr_aload_n tX6_open_58 0 rfl ?_
    refine pr_iconst (v := nI 0) tX6_open_59 rfl ?_
    refine pr_put0 tX6_open_60 rfl rfl rfl ?_
    obtain ⟨σ10, eσ10⟩ : ∃ z : pST, z = (pm_ui σ9.1 8 10 (nI 0), σ9.2) := ⟨_, rfl⟩
    rw [← eσ10]
    refine pr_aload_n tX6_open_63 0 rfl ?_
    refine pr_geta (j := 147) tX6_open_64 rfl rfl rfl rfl ?_
    refine pr_iconst (v := nI 0) tX6_open_67 rfl ?_
    refine pr_callS tX6_open_68 rfl ⟨Nat.le_of_ble_eq_true rfl, Nat.le_of_ble_eq_true rfl, rfl⟩ (ev_J7_fill_53178 σ10 (q := 147) rfl (by decide) (nI 0)) ?_
    refine pR_eq (st' := []) rfl rfl ?_
    refine pr_aload_n tX6_open_71 0 rfl ?_
    refine pr_geta (j := 148) tX6_open_72 rfl rfl rfl rfl ?_
    refine pr_iconst (v := -1) tX6_open_75 rfl ?_
    refine pr_callS tX6_open_76 rfl ⟨Nat.le_of_ble_eq_true rfl, Nat.le_of_ble_eq_true rfl, rfl⟩ (ev_J7_fill_53178 (filI σ10.1 147 16 (nI 0), σ10.2) (q := 148) rfl (by decide) (-1)) ?_
    refine pR_eq (st' := []) rfl rfl ?_
    refine pr_aload_n tX6_open_79 0 rfl ?_
    refine pr_geta (j := 149) tX6_open_80 rfl rfl rfl rfl ?_
    refine pr_iconst (v := nI 0) tX6_open_83 rfl ?_
    refine pr_callS tX6_open_84 rfl ⟨Nat.le_of_ble_eq_true rfl, Nat.le_of_ble_eq_true rfl, rfl⟩ (ev_J7_fill_53178 (filI (filI σ10.1 147 16 (nI 0), σ10.2).1 148 16 (-1), (filI σ10.1 147 16 (nI 0), σ10.2).2) (q := 149) rfl (by decide) (nI 0)) ?_
    refine pR_eq (st' := []) rfl rfl ?_
    refine pr_aload_n tX6_open_87 0 rfl ?_
    refine pr_geta (j := 150) tX6_open_88 rfl rfl rfl rfl ?_
    refine pr_iconst (v := nI 0) tX6_open_91 rfl ?_
    refine pr_callS tX6_open_92 rfl ⟨Nat.le_of_ble_eq_true rfl, Nat.le_of_ble_eq_true rfl, rfl⟩ (ev_J7_fill_53178 (filI (filI (filI σ10.1 147 16 (nI 0), σ10.2).1 148 16 (-1), (filI σ10.1 147 16 (nI 0), σ10.2).2).1 149 16 (nI 0), (filI (filI σ10.1 147 16 (nI 0), σ10.2).1 148 16 (-1), (filI σ10.1 147 16 (nI 0), σ10.2).2).2) (q := 150) rfl (by decide) (nI 0)) ?_
    refine pR_eq (st' := []) rfl rfl ?_
    refine pr_ret tX6_open_95 rfl ?_
    show _ = (opnW σ sz bd, none)
    unfold opnW
    rw [eσ10, eσ9, eσ8, eσ7, eσ6, eσ5, eσ4, eσ3, eσ2, eσ1]
  obtain ⟨x, h1, h2⟩ := key
  rw [h1, h2]
