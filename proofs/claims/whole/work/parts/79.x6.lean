/-! ===== the class's workers, method by method ===== -/
theorem ev_min (σ : pST) {a b : Nat} (ha : a < 2 ^ 31) (hb : b < 2 ^ 31) : pm_min σ [.inl (nI a), .inl (nI b)] = some (σ, some (.inl (nI (min a b)))) := by
  show (some (σ, some (.inl (if nI b < nI a then nI b else nI a))) : Option pRT) = _
  by_cases h : b < a
  · rw [if_pos ((nI_ltI (by omega) (by omega)).mpr h), Nat.min_eq_right (Nat.le_of_lt h)]
  · rw [if_neg (fun z => h ((nI_ltI (by omega) (by omega)).mp z)), Nat.min_eq_left (by omega)]

set_option maxRecDepth 100000 in
theorem ev_X6_giveRun (σ : pST) {w c : Nat} {ρ : pST} (hw : w < 4) (hc : c < 16) (hb : kX0_begin (pm_ui (pm_ui (pm_ui (σ.1) 150 w (nI 1)) 151 w (nI c)) 147 c (nI 1), σ.2) [.inr (.inr (16 + 8 * c))] = some (ρ, none)) : kX6_giveRun σ [.inr (.inr 8), .inl (nI w), .inl (nI c)] = some ((ρ, none)) := by
  have key : ∃ x, kX6_giveRun σ [.inr (.inr 8), .inl (nI w), .inl (nI c)] = some x ∧ x = (ρ, none) := by
    refine pR_met (post := fun x => x = (ρ, none)) rfl (Nat.le_of_ble_eq_true rfl) ?_
    show pR _ _ _ _ _ _ _ _ 0 [(0, .inr (.inr 8)), (1, .inl (nI w)), (2, .inl (nI c))] [] σ
    refine pr_aload_n tX6_giveRun_0 0 rfl ?_
    refine pr_geta (j := 150) tX6_giveRun_1 rfl rfl rfl rfl ?_
    refine pr_iload_n tX6_giveRun_4 1 rfl ?_
    refine pr_iconst (v := nI 1) tX6_giveRun_5 rfl ?_
    refine pr_ias tX6_giveRun_6 w rfl rfl (by omega) (by decide) ?_
    obtain ⟨σ1, eσ1⟩ : ∃ z : pST, z = (pm_ui σ.1 150 w (nI 1), σ.2) := ⟨_, rfl⟩
    rw [← eσ1]
    refine pr_aload_n tX6_giveRun_7 0 rfl ?_
    refine pr_geta (j := 151) tX6_giveRun_8 rfl rfl rfl rfl ?_
    refine pr_iload_n tX6_giveRun_11 1 rfl ?_
    refine pr_iload_n tX6_giveRun_12 2 rfl ?_
    refine pr_ias tX6_giveRun_13 w rfl rfl (by omega) (by decide) ?_
    obtain ⟨σ2, eσ2⟩ : ∃ z : pST, z = (pm_ui σ1.1 151 w (nI c), σ1.2) := ⟨_, rfl⟩
    rw [← eσ2]
    refine pr_aload_n tX6_giveRun_14 0 rfl ?_
    refine pr_geta (j := 147) tX6_giveRun_15 rfl rfl rfl rfl ?_
    refine pr_iload_n tX6_giveRun_18 2 rfl ?_
    refine pr_iconst (v := nI 1) tX6_giveRun_19 rfl ?_
    refine pr_ias tX6_giveRun_20 c rfl rfl (by omega) (by decide) ?_
    obtain ⟨σ3, eσ3⟩ : ∃ z : pST, z = (pm_ui σ2.1 147 c (nI 1), σ2.2) := ⟨_, rfl⟩
    rw [← eσ3]
    refine pr_aload_n tX6_giveRun_21 0 rfl ?_
    refine pr_geta (j := 9) tX6_giveRun_22 rfl rfl rfl rfl ?_
    refine pr_geta (j := 15) tX6_giveRun_25 rfl rfl rfl rfl ?_
    refine pr_iload_n tX6_giveRun_28 2 rfl ?_
    refine pr_aal (a := 16 + 8 * c) tX6_giveRun_29 c rfl rfl (by omega) (by decide) rfl ?_
    refine pr_callV tX6_giveRun_30 rfl ⟨Nat.le_of_ble_eq_true rfl, Nat.le_of_ble_eq_true rfl, rfl⟩ (by rw [eσ3, eσ2, eσ1]; exact hb) ?_
    refine pR_eq (st' := []) rfl rfl ?_
    refine pr_ret tX6_giveRun_33 rfl ?_
    rfl
  obtain ⟨x, h1, h2⟩ := key
  rw [h1, h2]

set_option maxRecDepth 100000 in
theorem ev_X6_giveUp (σ : pST) {w c gu : Nat} {j : Int32} {ρ : pST} (hw : w < 4) (hc : c < 16) (hg : σ.1 8 5 = nI gu) (hn : kX3_note (pm_ui (pm_ui (pm_ui (pm_ui (σ.1) 150 w (nI 0)) 147 c (nI 3)) 148 c j) 8 5 (nI (gu + 1)), σ.2) [.inr (.inr 144), .inl (nI c), .inl j] = some (ρ, none)) : kX6_giveUp σ [.inr (.inr 8), .inl (nI w), .inl (nI c), .inl j] = some ((ρ, none)) := by
  have key : ∃ x, kX6_giveUp σ [.inr (.inr 8), .inl (nI w), .inl (nI c), .inl j] = some x ∧ x = (ρ, none) := by
    refine pR_met (post := fun x => x = (ρ, none)) rfl (Nat.le_of_ble_eq_true rfl) ?_
    show pR _ _ _ _ _ _ _ _ 0 [(0, .inr (.inr 8)), (1, .inl (nI w)), (2, .inl (nI c)), (3, .inl j)] [] σ
    refine pr_aload_n tX6_giveUp_0 0 rfl ?_
    refine pr_geta (j := 150) tX6_giveUp_1 rfl rfl rfl rfl ?_
    refine pr_iload_n tX6_giveUp_4 1 rfl ?_
    refine pr_iconst (v := nI 0) tX6_giveUp_5 rfl ?_
    refine pr_ias tX6_giveUp_6 w rfl rfl (by omega) (by decide) ?_
    obtain ⟨σ1, eσ1⟩ : ∃ z : pST, z = (pm_ui σ.1 150 w (nI 0), σ.2) := ⟨_, rfl⟩
    rw [← eσ1]
    refine pr_aload_n tX6_giveUp_7 0 rfl ?_
    refine pr_geta (j := 147) tX6_giveUp_8 rfl rfl rfl rfl ?_
    refine pr_iload_n tX6_giveUp_11 2 rfl ?_
    refine pr_iconst (v := nI 3) tX6_giveUp_12 rfl ?_
    refine pr_ias tX6_giveUp_13 c rfl rfl (by omega) (by decide) ?_
    obtain ⟨σ2, eσ2⟩ : ∃ z : pST, z = (pm_ui σ1.1 147 c (nI 3), σ1.2) := ⟨_, rfl⟩
    rw [← eσ2]
    refine pr_aload_n tX6_giveUp_14 0 rfl ?_
    refine pr_geta (j := 148) tX6_giveUp_15 rfl rfl rfl rfl ?_
    refine pr_iload_n tX6_giveUp_18 2 rfl ?_
    refine pr_iload_n tX6_giveUp_19 3 rfl ?_
    refine pr_ias tX6_giveUp_20 c rfl rfl (by omega) (by decide) ?_
    obtain ⟨σ3, eσ3⟩ : ∃ z : pST, z = (pm_ui σ2.1 148 c j, σ2.2) := ⟨_, rfl⟩
    rw [← eσ3]
    refine pr_aload_n tX6_giveUp_21 0 rfl ?_
    refine pr_dup tX6_giveUp_22 rfl ?_
    refine pr_get0 tX6_giveUp_23 rfl rfl rfl ?_
    refine pR_topi (y := (nI gu)) (by simp [eσ1, eσ2, eσ3, pm_ui, pm_uj, upd, vp_updL, hg]) ?_
    refine pr_iconst (v := nI 1) tX6_giveUp_26 rfl ?_
    refine pr_iadd (v := (nI (gu + 1))) tX6_giveUp_27 (nI_add _ _) ?_
    refine pr_put0 tX6_giveUp_28 rfl rfl rfl ?_
    obtain ⟨σ4, eσ4⟩ : ∃ z : pST, z = (pm_ui σ3.1 8 5 (nI (gu + 1)), σ3.2) := ⟨_, rfl⟩
    rw [← eσ4]
    refine pr_aload_n tX6_giveUp_31 0 rfl ?_
    refine pr_geta (j := 144) tX6_giveUp_32 rfl rfl rfl rfl ?_
    refine pr_iload_n tX6_giveUp_35 2 rfl ?_
    refine pr_iload_n tX6_giveUp_36 3 rfl ?_
    refine pr_callV tX6_giveUp_37 rfl ⟨Nat.le_of_ble_eq_true rfl, Nat.le_of_ble_eq_true rfl, rfl⟩ (by rw [eσ4, eσ3, eσ2, eσ1]; exact hn) ?_
    refine pR_eq (st' := []) rfl rfl ?_
    refine pr_ret tX6_giveUp_40 rfl ?_
    rfl
  obtain ⟨x, h1, h2⟩ := key
  rw [h1, h2]

set_option maxRecDepth 100000 in
theorem ev_X6_undo (σ : pST) {c ud nm lr bd : Nat} {ρ : pST} (hc : c < 16) (hu : σ.1 8 4 = nI ud) (hd : kX5_doubt (pm_ui (σ.1) 8 4 (nI (ud + 1)), σ.2) [.inr (.inr 10), .inl (nI c)] = some (ρ, none)) (hnm : ρ.1 149 c = nI nm) (hn1 : nm ≤ 1000) (hlr : ρ.1 8 10 = nI lr) (hl1 : lr ≤ 16) (hbd : ρ.1 8 8 = nI bd) (hb1 : bd ≤ 100) : kX6_undo σ [.inr (.inr 8), .inl (nI c)] = some (((pm_ui (pm_ui (pm_ui (pm_ui (ρ.1) 149 c (nI (nm + 1))) 147 c (nI 0)) 8 10 (nI (min lr (c + 1)))) 8 6 (if bd ≤ nm + 1 then nI 1 else nI 0), ρ.2), none)) := by
  have key : ∃ x, kX6_undo σ [.inr (.inr 8), .inl (nI c)] = some x ∧ x = ((pm_ui (pm_ui (pm_ui (pm_ui (ρ.1) 149 c (nI (nm + 1))) 147 c (nI 0)) 8 10 (nI (min lr (c + 1)))) 8 6 (if bd ≤ nm + 1 then nI 1 else nI 0), ρ.2), none) := by
    refine pR_met (post := fun x => x = ((pm_ui (pm_ui (pm_ui (pm_ui (ρ.1) 149 c (nI (nm + 1))) 147 c (nI 0)) 8 10 (nI (min lr (c + 1)))) 8 6 (if bd ≤ nm + 1 then nI 1 else nI 0), ρ.2), none)) rfl (Nat.le_of_ble_eq_true rfl) ?_
    show pR _ _ _ _ _ _ _ _ 0 [(0, .inr (.inr 8)), (1, .inl (nI c))] [] σ
    refine pr_aload_n tX6_undo_0 0 rfl ?_
    refine pr_dup tX6_undo_1 rfl ?_
    refine pr_get0 tX6_undo_2 rfl rfl rfl ?_
    refine pR_topi (y := (nI ud)) (by simp [pm_ui, pm_uj, upd, vp_updL, hu]) ?_
    refine pr_iconst (v := nI 1) tX6_undo_5 rfl ?_
    refine pr_iadd (v := (nI (ud + 1))) tX6_undo_6 (nI_add _ _) ?_
    refine pr_put0 tX6_undo_7 rfl rfl rfl ?_
    obtain ⟨σ1, eσ1⟩ : ∃ z : pST, z = (pm_ui σ.1 8 4 (nI (ud + 1)), σ.2) := ⟨_, rfl⟩
    rw [← eσ1]
    refine pr_aload_n tX6_undo_10 0 rfl ?_
    refine pr_geta (j := 9) tX6_undo_11 rfl rfl rfl rfl ?_
    refine pr_geta (j := 10) tX6_undo_14 rfl rfl rfl rfl ?_
    refine pr_iload_n tX6_undo_17 1 rfl ?_
    refine pr_callV tX6_undo_18 rfl ⟨Nat.le_of_ble_eq_true rfl, Nat.le_of_ble_eq_true rfl, rfl⟩ (by rw [eσ1]; exact hd) ?_
    refine pR_eq (st' := []) rfl rfl ?_
    refine pr_aload_n tX6_undo_21 0 rfl ?_
    refine pr_geta (j := 149) tX6_undo_22 rfl rfl rfl rfl ?_
    refine pr_iload_n tX6_undo_25 1 rfl ?_
    refine pr_dup2 tX6_undo_26 ⟨rfl, rfl⟩ ?_
    refine pr_ial tX6_undo_27 c rfl rfl (by omega) (by decide) ?_
    refine pR_topi (y := (nI nm)) (by simp [pm_ui, pm_uj, upd, vp_updL, hnm]) ?_
    refine pr_iconst (v := nI 1) tX6_undo_28 rfl ?_
    refine pr_iadd (v := (nI (nm + 1))) tX6_undo_29 (nI_add _ _) ?_
    refine pr_ias tX6_undo_30 c rfl rfl (by omega) (by decide) ?_
    obtain ⟨σ2, eσ2⟩ : ∃ z : pST, z = (pm_ui ρ.1 149 c (nI (nm + 1)), ρ.2) := ⟨_, rfl⟩
    rw [← eσ2]
    refine pr_aload_n tX6_undo_31 0 rfl ?_
    refine pr_geta (j := 147) tX6_undo_32 rfl rfl rfl rfl ?_
    refine pr_iload_n tX6_undo_35 1 rfl ?_
    refine pr_iconst (v := nI 0) tX6_undo_36 rfl ?_
    refine pr_ias tX6_undo_37 c rfl rfl (by omega) (by decide) ?_
    obtain ⟨σ3, eσ3⟩ : ∃ z : pST, z = (pm_ui σ2.1 147 c (nI 0), σ2.2) := ⟨_, rfl⟩
    rw [← eσ3]
    refine pr_aload_n tX6_undo_38 0 rfl ?_
    refine pr_aload_n tX6_undo_39 0 rfl ?_
    refine pr_get0 tX6_undo_40 rfl rfl rfl ?_
    refine pR_topi (y := (nI lr)) (by simp [eσ2, eσ3, pm_ui, pm_uj, upd, vp_updL, hlr]) ?_
    refine pr_iload_n tX6_undo_43 1 rfl ?_
    refine pr_iconst (v := nI 1) tX6_undo_44 rfl ?_
    refine pr_iadd (v := (nI (c + 1))) tX6_undo_45 (nI_add _ _) ?_
    refine pr_callS tX6_undo_46 rfl ⟨Nat.le_of_ble_eq_true rfl, Nat.le_of_ble_eq_true rfl, rfl⟩ (ev_min _ (by omega) (by omega)) ?_
    refine pR_eq (st' := [.inl (nI (min lr (c + 1))), .inr (.inr 8)]) rfl rfl ?_
    refine pr_put0 tX6_undo_49 rfl rfl rfl ?_
    obtain ⟨σ4, eσ4⟩ : ∃ z : pST, z = (pm_ui σ3.1 8 10 (nI (min lr (c + 1))), σ3.2) := ⟨_, rfl⟩
    rw [← eσ4]
    refine pr_aload_n tX6_undo_52 0 rfl ?_
    refine pr_aload_n tX6_undo_53 0 rfl ?_
    refine pr_geta (j := 149) tX6_undo_54 rfl rfl rfl rfl ?_
    refine pr_iload_n tX6_undo_57 1 rfl ?_
    refine pr_ial tX6_undo_58 c rfl rfl (by omega) (by decide) ?_
    refine pR_topi (y := (nI (nm + 1))) (by simp [eσ2, eσ3, eσ4, pm_ui, pm_uj, upd, vp_updL]) ?_
    refine pr_aload_n tX6_undo_59 0 rfl ?_
    refine pr_get0 tX6_undo_60 rfl rfl rfl ?_
    refine pR_topi (y := (nI bd)) (by simp [eσ2, eσ3, eσ4, pm_ui, pm_uj, upd, vp_updL, hbd]) ?_
    refine pr_ic_lt (pc' := 70) tX6_undo_63 rfl (fun hc63 => ?_) (fun hc63 => ?_)
    · skip
      have hc63 : (nm + 1) < bd := (nI_ltI (by omega) (by omega)).mp hc63
      refine pr_iconst (v := nI 0) tX6_undo_70 rfl ?_
      refine pr_put1 tX6_undo_71 rfl rfl rfl (by decide) ?_
      obtain ⟨σ5, eσ5⟩ : ∃ z : pST, z = (pm_ui σ4.1 8 6 (nI 0), σ4.2) := ⟨_, rfl⟩
      rw [← eσ5]
      refine pr_ret tX6_undo_74 rfl ?_
      first | rw [if_pos (by omega), eσ5, eσ4, eσ3, eσ2] | rw [if_neg (by omega), eσ5, eσ4, eσ3, eσ2]
    · skip
      have hc63 : ¬ (nm + 1) < bd := fun z9 => hc63 ((nI_ltI (by omega) (by omega)).mpr z9)
      refine pr_iconst (v := nI 1) tX6_undo_66 rfl ?_
      refine pr_goto (pc' := 71) tX6_undo_67 rfl ?_
      refine pr_put1 tX6_undo_71 rfl rfl rfl (by decide) ?_
      obtain ⟨σ6, eσ6⟩ : ∃ z : pST, z = (pm_ui σ4.1 8 6 (nI 1), σ4.2) := ⟨_, rfl⟩
      rw [← eσ6]
      refine pr_ret tX6_undo_74 rfl ?_
      first | rw [if_pos (by omega), eσ6, eσ4, eσ3, eσ2] | rw [if_neg (by omega), eσ6, eσ4, eσ3, eσ2]
  obtain ⟨x, h1, h2⟩ := key
  rw [h1, h2]

set_option maxRecDepth 100000 in
theorem ev_X6_end_n (σ : pST) {w c nm lr : Nat} {f : Int32} {σa σb : pST} (hw : w < 4) (hc : c < 16) (hnm : σ.1 149 c = nI nm) (hp : kX5_publish (pm_ui (σ.1) 150 w (nI 0), σ.2) [.inr (.inr 10), .inr (.inr (16 + 8 * c)), .inl (nI nm)] = some (σa, some (.inl f))) (hk : kX6_wakeThoseWaitingFor (pm_ui (σa.1) 147 c (nI 2), σa.2) [.inr (.inr 8), .inl (nI c)] = some (σb, none)) (hlr : σb.1 8 10 = nI lr) (hl1 : lr ≤ 16) (hlt : lr ≤ c) : kX6_end σ [.inr (.inr 8), .inl (nI w), .inl (nI c)] = some ((σb, none)) := by
  have key : ∃ x, kX6_end σ [.inr (.inr 8), .inl (nI w), .inl (nI c)] = some x ∧ x = (σb, none) := by
    refine pR_met (post := fun x => x = (σb, none)) rfl (Nat.le_of_ble_eq_true rfl) ?_
    show pR _ _ _ _ _ _ _ _ 0 [(0, .inr (.inr 8)), (1, .inl (nI w)), (2, .inl (nI c))] [] σ
    refine pr_aload_n tX6_end_0 0 rfl ?_
    refine pr_geta (j := 150) tX6_end_1 rfl rfl rfl rfl ?_
    refine pr_iload_n tX6_end_4 1 rfl ?_
    refine pr_iconst (v := nI 0) tX6_end_5 rfl ?_
    refine pr_ias tX6_end_6 w rfl rfl (by omega) (by decide) ?_
    obtain ⟨σ1, eσ1⟩ : ∃ z : pST, z = (pm_ui σ.1 150 w (nI 0), σ.2) := ⟨_, rfl⟩
    rw [← eσ1]
    refine pr_aload_n tX6_end_7 0 rfl ?_
    refine pr_geta (j := 9) tX6_end_8 rfl rfl rfl rfl ?_
    refine pr_geta (j := 10) tX6_end_11 rfl rfl rfl rfl ?_
    refine pr_aload_n tX6_end_14 0 rfl ?_
    refine pr_geta (j := 9) tX6_end_15 rfl rfl rfl rfl ?_
    refine pr_geta (j := 15) tX6_end_18 rfl rfl rfl rfl ?_
    refine pr_iload_n tX6_end_21 2 rfl ?_
    refine pr_aal (a := 16 + 8 * c) tX6_end_22 c rfl rfl (by omega) (by decide) rfl ?_
    refine pr_aload_n tX6_end_23 0 rfl ?_
    refine pr_geta (j := 149) tX6_end_24 rfl rfl rfl rfl ?_
    refine pr_iload_n tX6_end_27 2 rfl ?_
    refine pr_ial tX6_end_28 c rfl rfl (by omega) (by decide) ?_
    refine pR_topi (y := (nI nm)) (by simp [eσ1, pm_ui, pm_uj, upd, vp_updL, hnm]) ?_
    refine pr_callV tX6_end_29 rfl ⟨Nat.le_of_ble_eq_true rfl, Nat.le_of_ble_eq_true rfl, rfl⟩ (by rw [eσ1]; exact hp) ?_
    refine pR_eq (st' := [.inl f]) rfl rfl ?_
    refine pr_istore_n (L' := [(3, .inl f), (0, .inr (.inr 8)), (1, .inl (nI w)), (2, .inl (nI c))]) tX6_end_32 (by decide) rfl ?_
    refine pr_aload_n tX6_end_33 1 rfl ?_
    refine pr_geta (j := 147) tX6_end_34 rfl rfl rfl rfl ?_
    refine pr_iload_n tX6_end_37 3 rfl ?_
    refine pr_iconst (v := nI 2) tX6_end_38 rfl ?_
    refine pr_ias tX6_end_39 c rfl rfl (by omega) (by decide) ?_
    obtain ⟨σ2, eσ2⟩ : ∃ z : pST, z = (pm_ui σa.1 147 c (nI 2), σa.2) := ⟨_, rfl⟩
    rw [← eσ2]
    refine pr_aload_n tX6_end_40 1 rfl ?_
    refine pr_iload_n tX6_end_41 3 rfl ?_
    refine pr_callV tX6_end_42 rfl ⟨Nat.le_of_ble_eq_true rfl, Nat.le_of_ble_eq_true rfl, rfl⟩ (by rw [eσ2]; exact hk) ?_
    refine pR_eq (st' := []) rfl rfl ?_
    refine pr_aload_n tX6_end_45 1 rfl ?_
    refine pr_get0 tX6_end_46 rfl rfl rfl ?_
    refine pR_topi (y := (nI lr)) (by simp [pm_ui, pm_uj, upd, vp_updL, hlr]) ?_
    refine pr_iload_n tX6_end_49 3 rfl ?_
    refine pr_ic_le (pc' := 71) tX6_end_50 rfl (fun hc50 => ?_) (fun hc50 => ?_)
    · skip
      have hc50 : lr ≤ c := (nI_leI (by omega) (by omega)).mp hc50
      refine pr_ret tX6_end_71 rfl ?_
      rfl
    · skip
      exact absurd ((nI_leI (by omega) (by omega)).mpr hlt) hc50
  obtain ⟨x, h1, h2⟩ := key
  rw [h1, h2]

set_option maxRecDepth 100000 in
theorem ev_X6_end_f (σ : pST) {w c nm lr : Nat} {f : Int32} {σa σb : pST} (hw : w < 4) (hc : c < 16) (hnm : σ.1 149 c = nI nm) (hp : kX5_publish (pm_ui (σ.1) 150 w (nI 0), σ.2) [.inr (.inr 10), .inr (.inr (16 + 8 * c)), .inl (nI nm)] = some (σa, some (.inl f))) (hk : kX6_wakeThoseWaitingFor (pm_ui (σa.1) 147 c (nI 2), σa.2) [.inr (.inr 8), .inl (nI c)] = some (σb, none)) (hlr : σb.1 8 10 = nI lr) (hl1 : lr ≤ 16) (hlt : c < lr) (hf : ¬ f = 0) : kX6_end σ [.inr (.inr 8), .inl (nI w), .inl (nI c)] = some (((pm_ui (σb.1) 8 10 (nI c), σb.2), none)) := by
  have key : ∃ x, kX6_end σ [.inr (.inr 8), .inl (nI w), .inl (nI c)] = some x ∧ x = ((pm_ui (σb.1) 8 10 (nI c), σb.2), none) := by
    refine pR_met (post := fun x => x = ((pm_ui (σb.1) 8 10 (nI c), σb.2), none)) rfl (Nat.le_of_ble_eq_true rfl) ?_
    show pR _ _ _ _ _ _ _ _ 0 [(0, .inr (.inr 8)), (1, .inl (nI w)), (2, .inl (nI c))] [] σ
    refine pr_aload_n tX6_end_0 0 rfl ?_
    refine pr_geta (j := 150) tX6_end_1 rfl rfl rfl rfl ?_
    refine pr_iload_n tX6_end_4 1 rfl ?_
    refine pr_iconst (v := nI 0) tX6_end_5 rfl ?_
    refine pr_ias tX6_end_6 w rfl rfl (by omega) (by decide) ?_
    obtain ⟨σ1, eσ1⟩ : ∃ z : pST, z = (pm_ui σ.1 150 w (nI 0), σ.2) := ⟨_, rfl⟩
    rw [← eσ1]
    refine pr_aload_n tX6_end_7 0 rfl ?_
    refine pr_geta (j := 9) tX6_end_8 rfl rfl rfl rfl ?_
    refine pr_geta (j := 10) tX6_end_11 rfl rfl rfl rfl ?_
    refine pr_aload_n tX6_end_14 0 rfl ?_
    refine pr_geta (j := 9) tX6_end_15 rfl rfl rfl rfl ?_
    refine pr_geta (j := 15) tX6_end_18 rfl rfl rfl rfl ?_
    refine pr_iload_n tX6_end_21 2 rfl ?_
    refine pr_aal (a := 16 + 8 * c) tX6_end_22 c rfl rfl (by omega) (by decide) rfl ?_
    refine pr_aload_n tX6_end_23 0 rfl ?_
    refine pr_geta (j := 149) tX6_end_24 rfl rfl rfl rfl ?_
    refine pr_iload_n tX6_end_27 2 rfl ?_
    refine pr_ial tX6_end_28 c rfl rfl (by omega) (by decide) ?_
    refine pR_topi (y := (nI nm)) (by simp [eσ1, pm_ui, pm_uj, upd, vp_updL, hnm]) ?_
    refine pr_callV tX6_end_29 rfl ⟨Nat.le_of_ble_eq_true rfl, Nat.le_of_ble_eq_true rfl, rfl⟩ (by rw [eσ1]; exact hp) ?_
    refine pR_eq (st' := [.inl f]) rfl rfl ?_
    refine pr_istore_n (L' := [(3, .inl f), (0, .inr (.inr 8)), (1, .inl (nI w)), (2, .inl (nI c))]) tX6_end_32 (by decide) rfl ?_
    refine pr_aload_n tX6_end_33 1 rfl ?_
    refine pr_geta (j := 147) tX6_end_34 rfl rfl rfl rfl ?_
    refine pr_iload_n tX6_end_37 3 rfl ?_
    refine pr_iconst (v := nI 2) tX6_end_38 rfl ?_
    refine pr_ias tX6_end_39 c rfl rfl (by omega) (by decide) ?_
    obtain ⟨σ2, eσ2⟩ : ∃ z : pST, z = (pm_ui σa.1 147 c (nI 2), σa.2) := ⟨_, rfl⟩
    rw [← eσ2]
    refine pr_aload_n tX6_end_40 1 rfl ?_
    refine pr_iload_n tX6_end_41 3 rfl ?_
    refine pr_callV tX6_end_42 rfl ⟨Nat.le_of_ble_eq_true rfl, Nat.le_of_ble_eq_true rfl, rfl⟩ (by rw [eσ2]; exact hk) ?_
    refine pR_eq (st' := []) rfl rfl ?_
    refine pr_aload_n tX6_end_45 1 rfl ?_
    refine pr_get0 tX6_end_46 rfl rfl rfl ?_
    refine pR_topi (y := (nI lr)) (by simp [pm_ui, pm_uj, upd, vp_updL, hlr]) ?_
    refine pr_iload_n tX6_end_49 3 rfl ?_
    refine pr_ic_le (pc' := 71) tX6_end_50 rfl (fun hc50 => ?_) (fun hc50 => ?_)
    · skip
      exact absurd ((nI_leI (by omega) (by omega)).mp hc50) (by omega)
    · skip
      have hc50 : ¬ lr ≤ c := fun z9 => hc50 ((nI_leI (by omega) (by omega)).mpr z9)
      refine pr_iload_n tX6_end_53 0 rfl ?_
      refine pr_if_eq (pc' := 65) tX6_end_54 rfl (fun hc54 => ?_) (fun hc54 => ?_)
      · skip
        exact absurd hc54 hf
      · skip
        skip
        refine pr_aload_n tX6_end_57 1 rfl ?_
        refine pr_iload_n tX6_end_58 3 rfl ?_
        refine pr_put0 tX6_end_59 rfl rfl rfl ?_
        obtain ⟨σ3, eσ3⟩ : ∃ z : pST, z = (pm_ui σb.1 8 10 (nI c), σb.2) := ⟨_, rfl⟩
        rw [← eσ3]
        refine pr_goto (pc' := 71) tX6_end_62 rfl ?_
        refine pr_ret tX6_end_71 rfl ?_
        rw [eσ3]
        try rfl
  obtain ⟨x, h1, h2⟩ := key
  rw [h1, h2]

set_option maxRecDepth 100000 in
theorem ev_X6_end_l (σ : pST) {w c nm lr : Nat} {f : Int32} {σa σb : pST} (hw : w < 4) (hc : c < 16) (hnm : σ.1 149 c = nI nm) (hp : kX5_publish (pm_ui (σ.1) 150 w (nI 0), σ.2) [.inr (.inr 10), .inr (.inr (16 + 8 * c)), .inl (nI nm)] = some (σa, some (.inl f))) (hk : kX6_wakeThoseWaitingFor (pm_ui (σa.1) 147 c (nI 2), σa.2) [.inr (.inr 8), .inl (nI c)] = some (σb, none)) (hlr : σb.1 8 10 = nI lr) (hl1 : lr ≤ 16) {σc : pST} (hlt : c < lr) (hf : f = 0) (hg : kX6_giveLook σb [.inr (.inr 8), .inl (nI w), .inl (nI c)] = some (σc, none)) : kX6_end σ [.inr (.inr 8), .inl (nI w), .inl (nI c)] = some ((σc, none)) := by
  have key : ∃ x, kX6_end σ [.inr (.inr 8), .inl (nI w), .inl (nI c)] = some x ∧ x = (σc, none) := by
    refine pR_met (post := fun x => x = (σc, none)) rfl (Nat.le_of_ble_eq_true rfl) ?_
    show pR _ _ _ _ _ _ _ _ 0 [(0, .inr (.inr 8)), (1, .inl (nI w)), (2, .inl (nI c))] [] σ
    refine pr_aload_n tX6_end_0 0 rfl ?_
    refine pr_geta (j := 150) tX6_end_1 rfl rfl rfl rfl ?_
    refine pr_iload_n tX6_end_4 1 rfl ?_
    refine pr_iconst (v := nI 0) tX6_end_5 rfl ?_
    refine pr_ias tX6_end_6 w rfl rfl (by omega) (by decide) ?_
    obtain ⟨σ1, eσ1⟩ : ∃ z : pST, z = (pm_ui σ.1 150 w (nI 0), σ.2) := ⟨_, rfl⟩
    rw [← eσ1]
    refine pr_aload_n tX6_end_7 0 rfl ?_
    refine pr_geta (j := 9) tX6_end_8 rfl rfl rfl rfl ?_
    refine pr_geta (j := 10) tX6_end_11 rfl rfl rfl rfl ?_
    refine pr_aload_n tX6_end_14 0 rfl ?_
    refine pr_geta (j := 9) tX6_end_15 rfl rfl rfl rfl ?_
    refine pr_geta (j := 15) tX6_end_18 rfl rfl rfl rfl ?_
    refine pr_iload_n tX6_end_21 2 rfl ?_
    refine pr_aal (a := 16 + 8 * c) tX6_end_22 c rfl rfl (by omega) (by decide) rfl ?_
    refine pr_aload_n tX6_end_23 0 rfl ?_
    refine pr_geta (j := 149) tX6_end_24 rfl rfl rfl rfl ?_
    refine pr_iload_n tX6_end_27 2 rfl ?_
    refine pr_ial tX6_end_28 c rfl rfl (by omega) (by decide) ?_
    refine pR_topi (y := (nI nm)) (by simp [eσ1, pm_ui, pm_uj, upd, vp_updL, hnm]) ?_
    refine pr_callV tX6_end_29 rfl ⟨Nat.le_of_ble_eq_true rfl, Nat.le_of_ble_eq_true rfl, rfl⟩ (by rw [eσ1]; exact hp) ?_
    refine pR_eq (st' := [.inl f]) rfl rfl ?_
    refine pr_istore_n (L' := [(3, .inl f), (0, .inr (.inr 8)), (1, .inl (nI w)), (2, .inl (nI c))]) tX6_end_32 (by decide) rfl ?_
    refine pr_aload_n tX6_end_33 1 rfl ?_
    refine pr_geta (j := 147) tX6_end_34 rfl rfl rfl rfl ?_
    refine pr_iload_n tX6_end_37 3 rfl ?_
    refine pr_iconst (v := nI 2) tX6_end_38 rfl ?_
    refine pr_ias tX6_end_39 c rfl rfl (by omega) (by decide) ?_
    obtain ⟨σ2, eσ2⟩ : ∃ z : pST, z = (pm_ui σa.1 147 c (nI 2), σa.2) := ⟨_, rfl⟩
    rw [← eσ2]
    refine pr_aload_n tX6_end_40 1 rfl ?_
    refine pr_iload_n tX6_end_41 3 rfl ?_
    refine pr_callV tX6_end_42 rfl ⟨Nat.le_of_ble_eq_true rfl, Nat.le_of_ble_eq_true rfl, rfl⟩ (by rw [eσ2]; exact hk) ?_
    refine pR_eq (st' := []) rfl rfl ?_
    refine pr_aload_n tX6_end_45 1 rfl ?_
    refine pr_get0 tX6_end_46 rfl rfl rfl ?_
    refine pR_topi (y := (nI lr)) (by simp [pm_ui, pm_uj, upd, vp_updL, hlr]) ?_
    refine pr_iload_n tX6_end_49 3 rfl ?_
    refine pr_ic_le (pc' := 71) tX6_end_50 rfl (fun hc50 => ?_) (fun hc50 => ?_)
    · skip
      exact absurd ((nI_leI (by omega) (by omega)).mp hc50) (by omega)
    · skip
      have hc50 : ¬ lr ≤ c := fun z9 => hc50 ((nI_leI (by omega) (by omega)).mpr z9)
      refine pr_iload_n tX6_end_53 0 rfl ?_
      refine pr_if_eq (pc' := 65) tX6_end_54 rfl (fun hc54 => ?_) (fun hc54 => ?_)
      · skip
        skip
        refine pr_aload_n tX6_end_65 1 rfl ?_
        refine pr_iload_n tX6_end_66 2 rfl ?_
        refine pr_iload_n tX6_end_67 3 rfl ?_
        refine pr_callV tX6_end_68 rfl ⟨Nat.le_of_ble_eq_true rfl, Nat.le_of_ble_eq_true rfl, rfl⟩ (hg) ?_
        refine pR_eq (st' := []) rfl rfl ?_
        refine pr_ret tX6_end_71 rfl ?_
        rfl
      · skip
        exact absurd hf hc54
  obtain ⟨x, h1, h2⟩ := key
  rw [h1, h2]

set_option maxRecDepth 100000 in
theorem ev_X6_goOn_u (σ : pST) {w c : Nat} {r : Int32} {σa : pST} (hw : w < 4) (hc : c < 16) (h1 : σ.1 151 w = nI c) (hd : kX0_doNext σ [.inr (.inr (16 + 8 * c)), .inr (.inr 2), .inr (.inr 10)] = some (σa, some (.inl r))) {σb : pST} (hr : ¬ r = -1) (hu : kX6_giveUp σa [.inr (.inr 8), .inl (nI w), .inl (nI c), .inl r] = some (σb, none)) : kX6_goOn σ [.inr (.inr 8), .inl (nI w), .inr (.inr 2)] = some ((σb, none)) := by
  have key : ∃ x, kX6_goOn σ [.inr (.inr 8), .inl (nI w), .inr (.inr 2)] = some x ∧ x = (σb, none) := by
    refine pR_met (post := fun x => x = (σb, none)) rfl (Nat.le_of_ble_eq_true rfl) ?_
    show pR _ _ _ _ _ _ _ _ 0 [(0, .inr (.inr 8)), (1, .inl (nI w)), (2, .inr (.inr 2))] [] σ
    refine pr_aload_n tX6_goOn_0 0 rfl ?_
    refine pr_geta (j := 151) tX6_goOn_1 rfl rfl rfl rfl ?_
    refine pr_iload_n tX6_goOn_4 1 rfl ?_
    refine pr_ial tX6_goOn_5 w rfl rfl (by omega) (by decide) ?_
    refine pR_topi (y := (nI c)) (by simp [pm_ui, pm_uj, upd, vp_updL, h1]) ?_
    refine pr_istore_n (L' := [(3, .inl (nI c)), (0, .inr (.inr 8)), (1, .inl (nI w)), (2, .inr (.inr 2))]) tX6_goOn_6 (by decide) rfl ?_
    refine pr_aload_n tX6_goOn_7 1 rfl ?_
    refine pr_geta (j := 9) tX6_goOn_8 rfl rfl rfl rfl ?_
    refine pr_geta (j := 15) tX6_goOn_11 rfl rfl rfl rfl ?_
    refine pr_iload_n tX6_goOn_14 0 rfl ?_
    refine pr_aal (a := 16 + 8 * c) tX6_goOn_15 c rfl rfl (by omega) (by decide) rfl ?_
    refine pr_astore (L' := [(4, .inr (.inr (16 + 8 * c))), (3, .inl (nI c)), (0, .inr (.inr 8)), (1, .inl (nI w)), (2, .inr (.inr 2))]) tX6_goOn_16 (by decide) rfl ?_
    refine pr_aload tX6_goOn_18 0 rfl ?_
    refine pr_aload_n tX6_goOn_20 4 rfl ?_
    refine pr_aload_n tX6_goOn_21 2 rfl ?_
    refine pr_geta (j := 9) tX6_goOn_22 rfl rfl rfl rfl ?_
    refine pr_geta (j := 10) tX6_goOn_25 rfl rfl rfl rfl ?_
    refine pr_callV tX6_goOn_28 rfl ⟨Nat.le_of_ble_eq_true rfl, Nat.le_of_ble_eq_true rfl, rfl⟩ (hd) ?_
    refine pR_eq (st' := [.inl r]) rfl rfl ?_
    refine pr_istore (L' := [(5, .inl r), (4, .inr (.inr (16 + 8 * c))), (3, .inl (nI c)), (0, .inr (.inr 8)), (1, .inl (nI w)), (2, .inr (.inr 2))]) tX6_goOn_31 (by decide) rfl ?_
    refine pr_iload tX6_goOn_33 0 rfl ?_
    refine pr_iconst (v := -1) tX6_goOn_35 rfl ?_
    refine pr_ic_eq (pc' := 50) tX6_goOn_36 rfl (fun hc36 => ?_) (fun hc36 => ?_)
    · skip
      exact absurd hc36 hr
    · skip
      skip
      refine pr_aload_n tX6_goOn_39 3 rfl ?_
      refine pr_iload_n tX6_goOn_40 4 rfl ?_
      refine pr_iload_n tX6_goOn_41 2 rfl ?_
      refine pr_iload tX6_goOn_42 0 rfl ?_
      refine pr_callV tX6_goOn_44 rfl ⟨Nat.le_of_ble_eq_true rfl, Nat.le_of_ble_eq_true rfl, rfl⟩ (hu) ?_
      refine pR_eq (st' := []) rfl rfl ?_
      refine pr_goto (pc' := 65) tX6_goOn_47 rfl ?_
      refine pr_ret tX6_goOn_65 rfl ?_
      rfl
  obtain ⟨x, h1, h2⟩ := key
  rw [h1, h2]

set_option maxRecDepth 100000 in
theorem ev_X6_goOn_n (σ : pST) {w c : Nat} {r : Int32} {σa : pST} (hw : w < 4) (hc : c < 16) (h1 : σ.1 151 w = nI c) (hd : kX0_doNext σ [.inr (.inr (16 + 8 * c)), .inr (.inr 2), .inr (.inr 10)] = some (σa, some (.inl r))) (hr : r = -1) (ho : kX0_isOver σa [.inr (.inr (16 + 8 * c)), .inr (.inr 2)] = some (σa, some (.inl (nI 0)))) : kX6_goOn σ [.inr (.inr 8), .inl (nI w), .inr (.inr 2)] = some ((σa, none)) := by
  have key : ∃ x, kX6_goOn σ [.inr (.inr 8), .inl (nI w), .inr (.inr 2)] = some x ∧ x = (σa, none) := by
    refine pR_met (post := fun x => x = (σa, none)) rfl (Nat.le_of_ble_eq_true rfl) ?_
    show pR _ _ _ _ _ _ _ _ 0 [(0, .inr (.inr 8)), (1, .inl (nI w)), (2, .inr (.inr 2))] [] σ
    refine pr_aload_n tX6_goOn_0 0 rfl ?_
    refine pr_geta (j := 151) tX6_goOn_1 rfl rfl rfl rfl ?_
    refine pr_iload_n tX6_goOn_4 1 rfl ?_
    refine pr_ial tX6_goOn_5 w rfl rfl (by omega) (by decide) ?_
    refine pR_topi (y := (nI c)) (by simp [pm_ui, pm_uj, upd, vp_updL, h1]) ?_
    refine pr_istore_n (L' := [(3, .inl (nI c)), (0, .inr (.inr 8)), (1, .inl (nI w)), (2, .inr (.inr 2))]) tX6_goOn_6 (by decide) rfl ?_
    refine pr_aload_n tX6_goOn_7 1 rfl ?_
    refine pr_geta (j := 9) tX6_goOn_8 rfl rfl rfl rfl ?_
    refine pr_geta (j := 15) tX6_goOn_11 rfl rfl rfl rfl ?_
    refine pr_iload_n tX6_goOn_14 0 rfl ?_
    refine pr_aal (a := 16 + 8 * c) tX6_goOn_15 c rfl rfl (by omega) (by decide) rfl ?_
    refine pr_astore (L' := [(4, .inr (.inr (16 + 8 * c))), (3, .inl (nI c)), (0, .inr (.inr 8)), (1, .inl (nI w)), (2, .inr (.inr 2))]) tX6_goOn_16 (by decide) rfl ?_
    refine pr_aload tX6_goOn_18 0 rfl ?_
    refine pr_aload_n tX6_goOn_20 4 rfl ?_
    refine pr_aload_n tX6_goOn_21 2 rfl ?_
    refine pr_geta (j := 9) tX6_goOn_22 rfl rfl rfl rfl ?_
    refine pr_geta (j := 10) tX6_goOn_25 rfl rfl rfl rfl ?_
    refine pr_callV tX6_goOn_28 rfl ⟨Nat.le_of_ble_eq_true rfl, Nat.le_of_ble_eq_true rfl, rfl⟩ (hd) ?_
    refine pR_eq (st' := [.inl r]) rfl rfl ?_
    refine pr_istore (L' := [(5, .inl r), (4, .inr (.inr (16 + 8 * c))), (3, .inl (nI c)), (0, .inr (.inr 8)), (1, .inl (nI w)), (2, .inr (.inr 2))]) tX6_goOn_31 (by decide) rfl ?_
    refine pr_iload tX6_goOn_33 0 rfl ?_
    refine pr_iconst (v := -1) tX6_goOn_35 rfl ?_
    refine pr_ic_eq (pc' := 50) tX6_goOn_36 rfl (fun hc36 => ?_) (fun hc36 => ?_)
    · skip
      skip
      refine pr_aload tX6_goOn_50 1 rfl ?_
      refine pr_aload_n tX6_goOn_52 5 rfl ?_
      refine pr_callV tX6_goOn_53 rfl ⟨Nat.le_of_ble_eq_true rfl, Nat.le_of_ble_eq_true rfl, rfl⟩ (ho) ?_
      refine pR_eq (st' := [.inl (nI 0)]) rfl rfl ?_
      refine pr_if_eq (pc' := 65) tX6_goOn_56 rfl (fun hc56 => ?_) (fun hc56 => ?_)
      · skip
        refine pr_ret tX6_goOn_65 rfl ?_
        rfl
      · skip
        exact absurd (by decide) hc56
    · skip
      exact absurd hr hc36
  obtain ⟨x, h1, h2⟩ := key
  rw [h1, h2]

set_option maxRecDepth 100000 in
theorem ev_X6_goOn_e (σ : pST) {w c : Nat} {r : Int32} {σa : pST} (hw : w < 4) (hc : c < 16) (h1 : σ.1 151 w = nI c) (hd : kX0_doNext σ [.inr (.inr (16 + 8 * c)), .inr (.inr 2), .inr (.inr 10)] = some (σa, some (.inl r))) {σb : pST} (hr : r = -1) (ho : kX0_isOver σa [.inr (.inr (16 + 8 * c)), .inr (.inr 2)] = some (σa, some (.inl (nI 1)))) (he : kX6_end σa [.inr (.inr 8), .inl (nI w), .inl (nI c)] = some (σb, none)) : kX6_goOn σ [.inr (.inr 8), .inl (nI w), .inr (.inr 2)] = some ((σb, none)) := by
  have key : ∃ x, kX6_goOn σ [.inr (.inr 8), .inl (nI w), .inr (.inr 2)] = some x ∧ x = (σb, none) := by
    refine pR_met (post := fun x => x = (σb, none)) rfl (Nat.le_of_ble_eq_true rfl) ?_
    show pR _ _ _ _ _ _ _ _ 0 [(0, .inr (.inr 8)), (1, .inl (nI w)), (2, .inr (.inr 2))] [] σ
    refine pr_aload_n tX6_goOn_0 0 rfl ?_
    refine pr_geta (j := 151) tX6_goOn_1 rfl rfl rfl rfl ?_
    refine pr_iload_n tX6_goOn_4 1 rfl ?_
    refine pr_ial tX6_goOn_5 w rfl rfl (by omega) (by decide) ?_
    refine pR_topi (y := (nI c)) (by simp [pm_ui, pm_uj, upd, vp_updL, h1]) ?_
    refine pr_istore_n (L' := [(3, .inl (nI c)), (0, .inr (.inr 8)), (1, .inl (nI w)), (2, .inr (.inr 2))]) tX6_goOn_6 (by decide) rfl ?_
    refine pr_aload_n tX6_goOn_7 1 rfl ?_
    refine pr_geta (j := 9) tX6_goOn_8 rfl rfl rfl rfl ?_
    refine pr_geta (j := 15) tX6_goOn_11 rfl rfl rfl rfl ?_
    refine pr_iload_n tX6_goOn_14 0 rfl ?_
    refine pr_aal (a := 16 + 8 * c) tX6_goOn_15 c rfl rfl (by omega) (by decide) rfl ?_
    refine pr_astore (L' := [(4, .inr (.inr (16 + 8 * c))), (3, .inl (nI c)), (0, .inr (.inr 8)), (1, .inl (nI w)), (2, .inr (.inr 2))]) tX6_goOn_16 (by decide) rfl ?_
    refine pr_aload tX6_goOn_18 0 rfl ?_
    refine pr_aload_n tX6_goOn_20 4 rfl ?_
    refine pr_aload_n tX6_goOn_21 2 rfl ?_
    refine pr_geta (j := 9) tX6_goOn_22 rfl rfl rfl rfl ?_
    refine pr_geta (j := 10) tX6_goOn_25 rfl rfl rfl rfl ?_
    refine pr_callV tX6_goOn_28 rfl ⟨Nat.le_of_ble_eq_true rfl, Nat.le_of_ble_eq_true rfl, rfl⟩ (hd) ?_
    refine pR_eq (st' := [.inl r]) rfl rfl ?_
    refine pr_istore (L' := [(5, .inl r), (4, .inr (.inr (16 + 8 * c))), (3, .inl (nI c)), (0, .inr (.inr 8)), (1, .inl (nI w)), (2, .inr (.inr 2))]) tX6_goOn_31 (by decide) rfl ?_
    refine pr_iload tX6_goOn_33 0 rfl ?_
    refine pr_iconst (v := -1) tX6_goOn_35 rfl ?_
    refine pr_ic_eq (pc' := 50) tX6_goOn_36 rfl (fun hc36 => ?_) (fun hc36 => ?_)
    · skip
      skip
      refine pr_aload tX6_goOn_50 1 rfl ?_
      refine pr_aload_n tX6_goOn_52 5 rfl ?_
      refine pr_callV tX6_goOn_53 rfl ⟨Nat.le_of_ble_eq_true rfl, Nat.le_of_ble_eq_true rfl, rfl⟩ (ho) ?_
      refine pR_eq (st' := [.inl (nI 1)]) rfl rfl ?_
      refine pr_if_eq (pc' := 65) tX6_goOn_56 rfl (fun hc56 => ?_) (fun hc56 => ?_)
      · skip
        exact absurd hc56 (by decide)
      · skip
        refine pr_aload_n tX6_goOn_59 3 rfl ?_
        refine pr_iload_n tX6_goOn_60 4 rfl ?_
        refine pr_iload_n tX6_goOn_61 2 rfl ?_
        refine pr_callV tX6_goOn_62 rfl ⟨Nat.le_of_ble_eq_true rfl, Nat.le_of_ble_eq_true rfl, rfl⟩ (he) ?_
        refine pR_eq (st' := []) rfl rfl ?_
        refine pr_ret tX6_goOn_65 rfl ?_
        rfl
    · skip
      exact absurd hr hc36
  obtain ⟨x, h1, h2⟩ := key
  rw [h1, h2]

set_option maxRecDepth 100000 in
theorem ev_X6_look_n (σ : pST) {w c lk hw nm tn : Nat} (h4 : w < 4) (hc : c < 16) (h1 : σ.1 151 w = nI c) (hk : σ.1 8 3 = nI lk) (h2 : σ.1 147 c = nI hw) (h21 : hw ≤ 3) (h3 : σ.1 149 c = nI nm) (h31 : nm ≤ 1000) (h5 : σ.1 152 w = nI tn) (h51 : tn ≤ 1000) (hq : ¬ (hw = 2 ∧ nm = tn)) : kX6_look σ [.inr (.inr 8), .inl (nI w)] = some (((pm_ui (pm_ui (σ.1) 150 w (nI 0)) 8 3 (nI (lk + 1)), σ.2), none)) := by
  have key : ∃ x, kX6_look σ [.inr (.inr 8), .inl (nI w)] = some x ∧ x = ((pm_ui (pm_ui (σ.1) 150 w (nI 0)) 8 3 (nI (lk + 1)), σ.2), none) := by
    refine pR_met (post := fun x => x = ((pm_ui (pm_ui (σ.1) 150 w (nI 0)) 8 3 (nI (lk + 1)), σ.2), none)) rfl (Nat.le_of_ble_eq_true rfl) ?_
    show pR _ _ _ _ _ _ _ _ 0 [(0, .inr (.inr 8)), (1, .inl (nI w))] [] σ
    refine pr_aload_n tX6_look_0 0 rfl ?_
    refine pr_geta (j := 151) tX6_look_1 rfl rfl rfl rfl ?_
    refine pr_iload_n tX6_look_4 1 rfl ?_
    refine pr_ial tX6_look_5 w rfl rfl (by omega) (by decide) ?_
    refine pR_topi (y := (nI c)) (by simp [pm_ui, pm_uj, upd, vp_updL, h1]) ?_
    refine pr_istore_n (L' := [(2, .inl (nI c)), (0, .inr (.inr 8)), (1, .inl (nI w))]) tX6_look_6 (by decide) rfl ?_
    refine pr_aload_n tX6_look_7 1 rfl ?_
    refine pr_geta (j := 150) tX6_look_8 rfl rfl rfl rfl ?_
    refine pr_iload_n tX6_look_11 2 rfl ?_
    refine pr_iconst (v := nI 0) tX6_look_12 rfl ?_
    refine pr_ias tX6_look_13 w rfl rfl (by omega) (by decide) ?_
    obtain ⟨σ1, eσ1⟩ : ∃ z : pST, z = (pm_ui σ.1 150 w (nI 0), σ.2) := ⟨_, rfl⟩
    rw [← eσ1]
    refine pr_aload_n tX6_look_14 1 rfl ?_
    refine pr_dup tX6_look_15 rfl ?_
    refine pr_get0 tX6_look_16 rfl rfl rfl ?_
    refine pR_topi (y := (nI lk)) (by simp [eσ1, pm_ui, pm_uj, upd, vp_updL, hk]) ?_
    refine pr_iconst (v := nI 1) tX6_look_19 rfl ?_
    refine pr_iadd (v := (nI (lk + 1))) tX6_look_20 (nI_add _ _) ?_
    refine pr_put0 tX6_look_21 rfl rfl rfl ?_
    obtain ⟨σ2, eσ2⟩ : ∃ z : pST, z = (pm_ui σ1.1 8 3 (nI (lk + 1)), σ1.2) := ⟨_, rfl⟩
    rw [← eσ2]
    refine pr_aload_n tX6_look_24 1 rfl ?_
    refine pr_geta (j := 147) tX6_look_25 rfl rfl rfl rfl ?_
    refine pr_iload_n tX6_look_28 0 rfl ?_
    refine pr_ial tX6_look_29 c rfl rfl (by omega) (by decide) ?_
    refine pR_topi (y := (nI hw)) (by simp [eσ1, eσ2, pm_ui, pm_uj, upd, vp_updL, h2]) ?_
    refine pr_iconst (v := nI 2) tX6_look_30 rfl ?_
    refine pr_ic_ne (pc' := 49) tX6_look_31 rfl (fun hc31 => ?_) (fun hc31 => ?_)
    · skip
      have hc31 : ¬ hw = 2 := fun z9 => hc31 ((nI_eq (by omega) (by omega)).mpr z9)
      refine pr_ret tX6_look_49 rfl ?_
      rw [eσ2, eσ1]
      try rfl
    · skip
      have hc31 : hw = 2 := (nI_eq (by omega) (by omega)).mp (Decidable.not_not.mp hc31)
      refine pr_aload_n tX6_look_34 1 rfl ?_
      refine pr_geta (j := 149) tX6_look_35 rfl rfl rfl rfl ?_
      refine pr_iload_n tX6_look_38 0 rfl ?_
      refine pr_ial tX6_look_39 c rfl rfl (by omega) (by decide) ?_
      refine pR_topi (y := (nI nm)) (by simp [eσ1, eσ2, pm_ui, pm_uj, upd, vp_updL, h3]) ?_
      refine pr_aload_n tX6_look_40 1 rfl ?_
      refine pr_geta (j := 152) tX6_look_41 rfl rfl rfl rfl ?_
      refine pr_iload_n tX6_look_44 2 rfl ?_
      refine pr_ial tX6_look_45 w rfl rfl (by omega) (by decide) ?_
      refine pR_topi (y := (nI tn)) (by simp [eσ1, eσ2, pm_ui, pm_uj, upd, vp_updL, h5]) ?_
      refine pr_ic_eq (pc' := 50) tX6_look_46 rfl (fun hc46 => ?_) (fun hc46 => ?_)
      · skip
        exact absurd ((nI_eq (by omega) (by omega)).mp hc46) (by omega)
      · skip
        have hc46 : ¬ nm = tn := fun z9 => hc46 ((nI_eq (by omega) (by omega)).mpr z9)
        refine pr_ret tX6_look_49 rfl ?_
        rw [eσ2, eσ1]
        try rfl
  obtain ⟨x, h1, h2⟩ := key
  rw [h1, h2]

set_option maxRecDepth 100000 in
theorem ev_X6_look_s (σ : pST) {w c lk hw nm tn : Nat} (h4 : w < 4) (hc : c < 16) (h1 : σ.1 151 w = nI c) (hk : σ.1 8 3 = nI lk) (h2 : σ.1 147 c = nI hw) (h21 : hw ≤ 3) (h3 : σ.1 149 c = nI nm) (h31 : nm ≤ 1000) (h5 : σ.1 152 w = nI tn) (h51 : tn ≤ 1000) (hq : hw = 2 ∧ nm = tn) {σ0 : pST} {r : Int32} (hf : kX0_firstChanged (pm_ui (pm_ui (σ.1) 150 w (nI 0)) 8 3 (nI (lk + 1)), σ.2) [.inr (.inr (16 + 8 * c)), .inr (.inr 10)] = some (σ0, some (.inl r))) (hr : r = -1) : kX6_look σ [.inr (.inr 8), .inl (nI w)] = some ((σ0, none)) := by
  have key : ∃ x, kX6_look σ [.inr (.inr 8), .inl (nI w)] = some x ∧ x = (σ0, none) := by
    refine pR_met (post := fun x => x = (σ0, none)) rfl (Nat.le_of_ble_eq_true rfl) ?_
    show pR _ _ _ _ _ _ _ _ 0 [(0, .inr (.inr 8)), (1, .inl (nI w))] [] σ
    refine pr_aload_n tX6_look_0 0 rfl ?_
    refine pr_geta (j := 151) tX6_look_1 rfl rfl rfl rfl ?_
    refine pr_iload_n tX6_look_4 1 rfl ?_
    refine pr_ial tX6_look_5 w rfl rfl (by omega) (by decide) ?_
    refine pR_topi (y := (nI c)) (by simp [pm_ui, pm_uj, upd, vp_updL, h1]) ?_
    refine pr_istore_n (L' := [(2, .inl (nI c)), (0, .inr (.inr 8)), (1, .inl (nI w))]) tX6_look_6 (by decide) rfl ?_
    refine pr_aload_n tX6_look_7 1 rfl ?_
    refine pr_geta (j := 150) tX6_look_8 rfl rfl rfl rfl ?_
    refine pr_iload_n tX6_look_11 2 rfl ?_
    refine pr_iconst (v := nI 0) tX6_look_12 rfl ?_
    refine pr_ias tX6_look_13 w rfl rfl (by omega) (by decide) ?_
    obtain ⟨σ1, eσ1⟩ : ∃ z : pST, z = (pm_ui σ.1 150 w (nI 0), σ.2) := ⟨_, rfl⟩
    rw [← eσ1]
    refine pr_aload_n tX6_look_14 1 rfl ?_
    refine pr_dup tX6_look_15 rfl ?_
    refine pr_get0 tX6_look_16 rfl rfl rfl ?_
    refine pR_topi (y := (nI lk)) (by simp [eσ1, pm_ui, pm_uj, upd, vp_updL, hk]) ?_
    refine pr_iconst (v := nI 1) tX6_look_19 rfl ?_
    refine pr_iadd (v := (nI (lk + 1))) tX6_look_20 (nI_add _ _) ?_
    refine pr_put0 tX6_look_21 rfl rfl rfl ?_
    obtain ⟨σ2, eσ2⟩ : ∃ z : pST, z = (pm_ui σ1.1 8 3 (nI (lk + 1)), σ1.2) := ⟨_, rfl⟩
    rw [← eσ2]
    refine pr_aload_n tX6_look_24 1 rfl ?_
    refine pr_geta (j := 147) tX6_look_25 rfl rfl rfl rfl ?_
    refine pr_iload_n tX6_look_28 0 rfl ?_
    refine pr_ial tX6_look_29 c rfl rfl (by omega) (by decide) ?_
    refine pR_topi (y := (nI hw)) (by simp [eσ1, eσ2, pm_ui, pm_uj, upd, vp_updL, h2]) ?_
    refine pr_iconst (v := nI 2) tX6_look_30 rfl ?_
    refine pr_ic_ne (pc' := 49) tX6_look_31 rfl (fun hc31 => ?_) (fun hc31 => ?_)
    · skip
      exact absurd ((nI_eq (by omega) (by omega)).mpr hq.1) hc31
    · skip
      skip
      refine pr_aload_n tX6_look_34 1 rfl ?_
      refine pr_geta (j := 149) tX6_look_35 rfl rfl rfl rfl ?_
      refine pr_iload_n tX6_look_38 0 rfl ?_
      refine pr_ial tX6_look_39 c rfl rfl (by omega) (by decide) ?_
      refine pR_topi (y := (nI nm)) (by simp [eσ1, eσ2, pm_ui, pm_uj, upd, vp_updL, h3]) ?_
      refine pr_aload_n tX6_look_40 1 rfl ?_
      refine pr_geta (j := 152) tX6_look_41 rfl rfl rfl rfl ?_
      refine pr_iload_n tX6_look_44 2 rfl ?_
      refine pr_ial tX6_look_45 w rfl rfl (by omega) (by decide) ?_
      refine pR_topi (y := (nI tn)) (by simp [eσ1, eσ2, pm_ui, pm_uj, upd, vp_updL, h5]) ?_
      refine pr_ic_eq (pc' := 50) tX6_look_46 rfl (fun hc46 => ?_) (fun hc46 => ?_)
      · skip
        skip
        refine pr_aload_n tX6_look_50 1 rfl ?_
        refine pr_geta (j := 9) tX6_look_51 rfl rfl rfl rfl ?_
        refine pr_geta (j := 15) tX6_look_54 rfl rfl rfl rfl ?_
        refine pr_iload_n tX6_look_57 0 rfl ?_
        refine pr_aal (a := 16 + 8 * c) tX6_look_58 c rfl rfl (by omega) (by decide) rfl ?_
        refine pr_aload_n tX6_look_59 1 rfl ?_
        refine pr_geta (j := 9) tX6_look_60 rfl rfl rfl rfl ?_
        refine pr_geta (j := 10) tX6_look_63 rfl rfl rfl rfl ?_
        refine pr_callV tX6_look_66 rfl ⟨Nat.le_of_ble_eq_true rfl, Nat.le_of_ble_eq_true rfl, rfl⟩ (by rw [eσ2, eσ1]; exact hf) ?_
        refine pR_eq (st' := [.inl r]) rfl rfl ?_
        refine pr_istore_n (L' := [(3, .inl r), (2, .inl (nI c)), (0, .inr (.inr 8)), (1, .inl (nI w))]) tX6_look_69 (by decide) rfl ?_
        refine pr_iload_n tX6_look_70 0 rfl ?_
        refine pr_iconst (v := -1) tX6_look_71 rfl ?_
        refine pr_ic_eq (pc' := 121) tX6_look_72 rfl (fun hc72 => ?_) (fun hc72 => ?_)
        · skip
          skip
          refine pr_ret tX6_look_121 rfl ?_
          rfl
        · skip
          exact absurd hr hc72
      · skip
        exact absurd ((nI_eq (by omega) (by omega)).mpr hq.2) hc46
  obtain ⟨x, h1, h2⟩ := key
  rw [h1, h2]

set_option maxRecDepth 100000 in
theorem ev_X6_look_f (σ : pST) {w c lk hw nm tn : Nat} (h4 : w < 4) (hc : c < 16) (h1 : σ.1 151 w = nI c) (hk : σ.1 8 3 = nI lk) (h2 : σ.1 147 c = nI hw) (h21 : hw ≤ 3) (h3 : σ.1 149 c = nI nm) (h31 : nm ≤ 1000) (h5 : σ.1 152 w = nI tn) (h51 : tn ≤ 1000) (hq : hw = 2 ∧ nm = tn) {σ0 : pST} {r : Int32} (hf : kX0_firstChanged (pm_ui (pm_ui (σ.1) 150 w (nI 0)) 8 3 (nI (lk + 1)), σ.2) [.inr (.inr (16 + 8 * c)), .inr (.inr 10)] = some (σ0, some (.inl r))) {o : Int32} {σa σb : pST} (hr : ¬ r = -1) (hwb : kX5_writerBelow σ0 [.inr (.inr 10), .inl r, .inl (nI c)] = some (σ0, some (.inl o))) (hn : kX3_note σ0 [.inr (.inr 144), .inl (nI c), .inl o] = some (σa, none)) (hu : kX6_undo σa [.inr (.inr 8), .inl (nI c)] = some (σb, none)) (hfe : ¬ σb.1 8 6 = 0) : kX6_look σ [.inr (.inr 8), .inl (nI w)] = some ((σb, none)) := by
  have key : ∃ x, kX6_look σ [.inr (.inr 8), .inl (nI w)] = some x ∧ x = (σb, none) := by
    refine pR_met (post := fun x => x = (σb, none)) rfl (Nat.le_of_ble_eq_true rfl) ?_
    show pR _ _ _ _ _ _ _ _ 0 [(0, .inr (.inr 8)), (1, .inl (nI w))] [] σ
    refine pr_aload_n tX6_look_0 0 rfl ?_
    refine pr_geta (j := 151) tX6_look_1 rfl rfl rfl rfl ?_
    refine pr_iload_n tX6_look_4 1 rfl ?_
    refine pr_ial tX6_look_5 w rfl rfl (by omega) (by decide) ?_
    refine pR_topi (y := (nI c)) (by simp [pm_ui, pm_uj, upd, vp_updL, h1]) ?_
    refine pr_istore_n (L' := [(2, .inl (nI c)), (0, .inr (.inr 8)), (1, .inl (nI w))]) tX6_look_6 (by decide) rfl ?_
    refine pr_aload_n tX6_look_7 1 rfl ?_
    refine pr_geta (j := 150) tX6_look_8 rfl rfl rfl rfl ?_
    refine pr_iload_n tX6_look_11 2 rfl ?_
    refine pr_iconst (v := nI 0) tX6_look_12 rfl ?_
    refine pr_ias tX6_look_13 w rfl rfl (by omega) (by decide) ?_
    obtain ⟨σ1, eσ1⟩ : ∃ z : pST, z = (pm_ui σ.1 150 w (nI 0), σ.2) := ⟨_, rfl⟩
    rw [← eσ1]
    refine pr_aload_n tX6_look_14 1 rfl ?_
    refine pr_dup tX6_look_15 rfl ?_
    refine pr_get0 tX6_look_16 rfl rfl rfl ?_
    refine pR_topi (y := (nI lk)) (by simp [eσ1, pm_ui, pm_uj, upd, vp_updL, hk]) ?_
    refine pr_iconst (v := nI 1) tX6_look_19 rfl ?_
    refine pr_iadd (v := (nI (lk + 1))) tX6_look_20 (nI_add _ _) ?_
    refine pr_put0 tX6_look_21 rfl rfl rfl ?_
    obtain ⟨σ2, eσ2⟩ : ∃ z : pST, z = (pm_ui σ1.1 8 3 (nI (lk + 1)), σ1.2) := ⟨_, rfl⟩
    rw [← eσ2]
    refine pr_aload_n tX6_look_24 1 rfl ?_
    refine pr_geta (j := 147) tX6_look_25 rfl rfl rfl rfl ?_
    refine pr_iload_n tX6_look_28 0 rfl ?_
    refine pr_ial tX6_look_29 c rfl rfl (by omega) (by decide) ?_
    refine pR_topi (y := (nI hw)) (by simp [eσ1, eσ2, pm_ui, pm_uj, upd, vp_updL, h2]) ?_
    refine pr_iconst (v := nI 2) tX6_look_30 rfl ?_
    refine pr_ic_ne (pc' := 49) tX6_look_31 rfl (fun hc31 => ?_) (fun hc31 => ?_)
    · skip
      exact absurd ((nI_eq (by omega) (by omega)).mpr hq.1) hc31
    · skip
      skip
      refine pr_aload_n tX6_look_34 1 rfl ?_
      refine pr_geta (j := 149) tX6_look_35 rfl rfl rfl rfl ?_
      refine pr_iload_n tX6_look_38 0 rfl ?_
      refine pr_ial tX6_look_39 c rfl rfl (by omega) (by decide) ?_
      refine pR_topi (y := (nI nm)) (by simp [eσ1, eσ2, pm_ui, pm_uj, upd, vp_updL, h3]) ?_
      refine pr_aload_n tX6_look_40 1 rfl ?_
      refine pr_geta (j := 152) tX6_look_41 rfl rfl rfl rfl ?_
      refine pr_iload_n tX6_look_44 2 rfl ?_
      refine pr_ial tX6_look_45 w rfl rfl (by omega) (by decide) ?_
      refine pR_topi (y := (nI tn)) (by simp [eσ1, eσ2, pm_ui, pm_uj, upd, vp_updL, h5]) ?_
      refine pr_ic_eq (pc' := 50) tX6_look_46 rfl (fun hc46 => ?_) (fun hc46 => ?_)
      · skip
        skip
        refine pr_aload_n tX6_look_50 1 rfl ?_
        refine pr_geta (j := 9) tX6_look_51 rfl rfl rfl rfl ?_
        refine pr_geta (j := 15) tX6_look_54 rfl rfl rfl rfl ?_
        refine pr_iload_n tX6_look_57 0 rfl ?_
        refine pr_aal (a := 16 + 8 * c) tX6_look_58 c rfl rfl (by omega) (by decide) rfl ?_
        refine pr_aload_n tX6_look_59 1 rfl ?_
        refine pr_geta (j := 9) tX6_look_60 rfl rfl rfl rfl ?_
        refine pr_geta (j := 10) tX6_look_63 rfl rfl rfl rfl ?_
        refine pr_callV tX6_look_66 rfl ⟨Nat.le_of_ble_eq_true rfl, Nat.le_of_ble_eq_true rfl, rfl⟩ (by rw [eσ2, eσ1]; exact hf) ?_
        refine pR_eq (st' := [.inl r]) rfl rfl ?_
        refine pr_istore_n (L' := [(3, .inl r), (2, .inl (nI c)), (0, .inr (.inr 8)), (1, .inl (nI w))]) tX6_look_69 (by decide) rfl ?_
        refine pr_iload_n tX6_look_70 0 rfl ?_
        refine pr_iconst (v := -1) tX6_look_71 rfl ?_
        refine pr_ic_eq (pc' := 121) tX6_look_72 rfl (fun hc72 => ?_) (fun hc72 => ?_)
        · skip
          exact absurd hc72 hr
        · skip
          skip
          refine pr_aload_n tX6_look_75 2 rfl ?_
          refine pr_geta (j := 144) tX6_look_76 rfl rfl rfl rfl ?_
          refine pr_iload_n tX6_look_79 1 rfl ?_
          refine pr_aload_n tX6_look_80 2 rfl ?_
          refine pr_geta (j := 9) tX6_look_81 rfl rfl rfl rfl ?_
          refine pr_geta (j := 10) tX6_look_84 rfl rfl rfl rfl ?_
          refine pr_iload_n tX6_look_87 0 rfl ?_
          refine pr_iload_n tX6_look_88 1 rfl ?_
          refine pr_callV tX6_look_89 rfl ⟨Nat.le_of_ble_eq_true rfl, Nat.le_of_ble_eq_true rfl, rfl⟩ (hwb) ?_
          refine pR_eq (st' := [.inl o, .inl (nI c), .inr (.inr 144)]) rfl rfl ?_
          refine pr_callV tX6_look_92 rfl ⟨Nat.le_of_ble_eq_true rfl, Nat.le_of_ble_eq_true rfl, rfl⟩ (hn) ?_
          refine pR_eq (st' := []) rfl rfl ?_
          refine pr_aload_n tX6_look_95 2 rfl ?_
          refine pr_iload_n tX6_look_96 1 rfl ?_
          refine pr_callV tX6_look_97 rfl ⟨Nat.le_of_ble_eq_true rfl, Nat.le_of_ble_eq_true rfl, rfl⟩ (hu) ?_
          refine pR_eq (st' := []) rfl rfl ?_
          refine pr_aload_n tX6_look_100 2 rfl ?_
          refine pr_get1 tX6_look_101 rfl rfl rfl ?_
          refine pr_if_ne (pc' := 121) tX6_look_104 rfl (fun hc104 => ?_) (fun hc104 => ?_)
          · skip
            skip
            refine pr_ret tX6_look_121 rfl ?_
            rfl
          · skip
            exact absurd hfe hc104
      · skip
        exact absurd ((nI_eq (by omega) (by omega)).mpr hq.2) hc46
  obtain ⟨x, h1, h2⟩ := key
  rw [h1, h2]

set_option maxRecDepth 100000 in
theorem ev_X6_look_u (σ : pST) {w c lk hw nm tn : Nat} (h4 : w < 4) (hc : c < 16) (h1 : σ.1 151 w = nI c) (hk : σ.1 8 3 = nI lk) (h2 : σ.1 147 c = nI hw) (h21 : hw ≤ 3) (h3 : σ.1 149 c = nI nm) (h31 : nm ≤ 1000) (h5 : σ.1 152 w = nI tn) (h51 : tn ≤ 1000) (hq : hw = 2 ∧ nm = tn) {σ0 : pST} {r : Int32} (hf : kX0_firstChanged (pm_ui (pm_ui (σ.1) 150 w (nI 0)) 8 3 (nI (lk + 1)), σ.2) [.inr (.inr (16 + 8 * c)), .inr (.inr 10)] = some (σ0, some (.inl r))) {o : Int32} {σa σb : pST} (hr : ¬ r = -1) (hwb : kX5_writerBelow σ0 [.inr (.inr 10), .inl r, .inl (nI c)] = some (σ0, some (.inl o))) (hn : kX3_note σ0 [.inr (.inr 144), .inl (nI c), .inl o] = some (σa, none)) (hu : kX6_undo σa [.inr (.inr 8), .inl (nI c)] = some (σb, none)) {rr : Nat} (hfe : σb.1 8 6 = 0) (hrr : σb.1 8 9 = nI rr) (hr1 : rr ≤ 16) (hlt : rr ≤ c) : kX6_look σ [.inr (.inr 8), .inl (nI w)] = some ((σb, none)) := by
  have key : ∃ x, kX6_look σ [.inr (.inr 8), .inl (nI w)] = some x ∧ x = (σb, none) := by
    refine pR_met (post := fun x => x = (σb, none)) rfl (Nat.le_of_ble_eq_true rfl) ?_
    show pR _ _ _ _ _ _ _ _ 0 [(0, .inr (.inr 8)), (1, .inl (nI w))] [] σ
    refine pr_aload_n tX6_look_0 0 rfl ?_
    refine pr_geta (j := 151) tX6_look_1 rfl rfl rfl rfl ?_
    refine pr_iload_n tX6_look_4 1 rfl ?_
    refine pr_ial tX6_look_5 w rfl rfl (by omega) (by decide) ?_
    refine pR_topi (y := (nI c)) (by simp [pm_ui, pm_uj, upd, vp_updL, h1]) ?_
    refine pr_istore_n (L' := [(2, .inl (nI c)), (0, .inr (.inr 8)), (1, .inl (nI w))]) tX6_look_6 (by decide) rfl ?_
    refine pr_aload_n tX6_look_7 1 rfl ?_
    refine pr_geta (j := 150) tX6_look_8 rfl rfl rfl rfl ?_
    refine pr_iload_n tX6_look_11 2 rfl ?_
    refine pr_iconst (v := nI 0) tX6_look_12 rfl ?_
    refine pr_ias tX6_look_13 w rfl rfl (by omega) (by decide) ?_
    obtain ⟨σ1, eσ1⟩ : ∃ z : pST, z = (pm_ui σ.1 150 w (nI 0), σ.2) := ⟨_, rfl⟩
    rw [← eσ1]
    refine pr_aload_n tX6_look_14 1 rfl ?_
    refine pr_dup tX6_look_15 rfl ?_
    refine pr_get0 tX6_look_16 rfl rfl rfl ?_
    refine pR_topi (y := (nI lk)) (by simp [eσ1, pm_ui, pm_uj, upd, vp_updL, hk]) ?_
    refine pr_iconst (v := nI 1) tX6_look_19 rfl ?_
    refine pr_iadd (v := (nI (lk + 1))) tX6_look_20 (nI_add _ _) ?_
    refine pr_put0 tX6_look_21 rfl rfl rfl ?_
    obtain ⟨σ2, eσ2⟩ : ∃ z : pST, z = (pm_ui σ1.1 8 3 (nI (lk + 1)), σ1.2) := ⟨_, rfl⟩
    rw [← eσ2]
    refine pr_aload_n tX6_look_24 1 rfl ?_
    refine pr_geta (j := 147) tX6_look_25 rfl rfl rfl rfl ?_
    refine pr_iload_n tX6_look_28 0 rfl ?_
    refine pr_ial tX6_look_29 c rfl rfl (by omega) (by decide) ?_
    refine pR_topi (y := (nI hw)) (by simp [eσ1, eσ2, pm_ui, pm_uj, upd, vp_updL, h2]) ?_
    refine pr_iconst (v := nI 2) tX6_look_30 rfl ?_
    refine pr_ic_ne (pc' := 49) tX6_look_31 rfl (fun hc31 => ?_) (fun hc31 => ?_)
    · skip
      exact absurd ((nI_eq (by omega) (by omega)).mpr hq.1) hc31
    · skip
      skip
      refine pr_aload_n tX6_look_34 1 rfl ?_
      refine pr_geta (j := 149) tX6_look_35 rfl rfl rfl rfl ?_
      refine pr_iload_n tX6_look_38 0 rfl ?_
      refine pr_ial tX6_look_39 c rfl rfl (by omega) (by decide) ?_
      refine pR_topi (y := (nI nm)) (by simp [eσ1, eσ2, pm_ui, pm_uj, upd, vp_updL, h3]) ?_
      refine pr_aload_n tX6_look_40 1 rfl ?_
      refine pr_geta (j := 152) tX6_look_41 rfl rfl rfl rfl ?_
      refine pr_iload_n tX6_look_44 2 rfl ?_
      refine pr_ial tX6_look_45 w rfl rfl (by omega) (by decide) ?_
      refine pR_topi (y := (nI tn)) (by simp [eσ1, eσ2, pm_ui, pm_uj, upd, vp_updL, h5]) ?_
      refine pr_ic_eq (pc' := 50) tX6_look_46 rfl (fun hc46 => ?_) (fun hc46 => ?_)
      · skip
        skip
        refine pr_aload_n tX6_look_50 1 rfl ?_
        refine pr_geta (j := 9) tX6_look_51 rfl rfl rfl rfl ?_
        refine pr_geta (j := 15) tX6_look_54 rfl rfl rfl rfl ?_
        refine pr_iload_n tX6_look_57 0 rfl ?_
        refine pr_aal (a := 16 + 8 * c) tX6_look_58 c rfl rfl (by omega) (by decide) rfl ?_
        refine pr_aload_n tX6_look_59 1 rfl ?_
        refine pr_geta (j := 9) tX6_look_60 rfl rfl rfl rfl ?_
        refine pr_geta (j := 10) tX6_look_63 rfl rfl rfl rfl ?_
        refine pr_callV tX6_look_66 rfl ⟨Nat.le_of_ble_eq_true rfl, Nat.le_of_ble_eq_true rfl, rfl⟩ (by rw [eσ2, eσ1]; exact hf) ?_
        refine pR_eq (st' := [.inl r]) rfl rfl ?_
        refine pr_istore_n (L' := [(3, .inl r), (2, .inl (nI c)), (0, .inr (.inr 8)), (1, .inl (nI w))]) tX6_look_69 (by decide) rfl ?_
        refine pr_iload_n tX6_look_70 0 rfl ?_
        refine pr_iconst (v := -1) tX6_look_71 rfl ?_
        refine pr_ic_eq (pc' := 121) tX6_look_72 rfl (fun hc72 => ?_) (fun hc72 => ?_)
        · skip
          exact absurd hc72 hr
        · skip
          skip
          refine pr_aload_n tX6_look_75 2 rfl ?_
          refine pr_geta (j := 144) tX6_look_76 rfl rfl rfl rfl ?_
          refine pr_iload_n tX6_look_79 1 rfl ?_
          refine pr_aload_n tX6_look_80 2 rfl ?_
          refine pr_geta (j := 9) tX6_look_81 rfl rfl rfl rfl ?_
          refine pr_geta (j := 10) tX6_look_84 rfl rfl rfl rfl ?_
          refine pr_iload_n tX6_look_87 0 rfl ?_
          refine pr_iload_n tX6_look_88 1 rfl ?_
          refine pr_callV tX6_look_89 rfl ⟨Nat.le_of_ble_eq_true rfl, Nat.le_of_ble_eq_true rfl, rfl⟩ (hwb) ?_
          refine pR_eq (st' := [.inl o, .inl (nI c), .inr (.inr 144)]) rfl rfl ?_
          refine pr_callV tX6_look_92 rfl ⟨Nat.le_of_ble_eq_true rfl, Nat.le_of_ble_eq_true rfl, rfl⟩ (hn) ?_
          refine pR_eq (st' := []) rfl rfl ?_
          refine pr_aload_n tX6_look_95 2 rfl ?_
          refine pr_iload_n tX6_look_96 1 rfl ?_
          refine pr_callV tX6_look_97 rfl ⟨Nat.le_of_ble_eq_true rfl, Nat.le_of_ble_eq_true rfl, rfl⟩ (hu) ?_
          refine pR_eq (st' := []) rfl rfl ?_
          refine pr_aload_n tX6_look_100 2 rfl ?_
          refine pr_get1 tX6_look_101 rfl rfl rfl ?_
          refine pr_if_ne (pc' := 121) tX6_look_104 rfl (fun hc104 => ?_) (fun hc104 => ?_)
          · skip
            exact absurd hfe hc104
          · skip
            skip
            refine pr_aload_n tX6_look_107 2 rfl ?_
            refine pr_get0 tX6_look_108 rfl rfl rfl ?_
            refine pR_topi (y := (nI rr)) (by simp [pm_ui, pm_uj, upd, vp_updL, hrr]) ?_
            refine pr_iload_n tX6_look_111 1 rfl ?_
            refine pr_ic_le (pc' := 121) tX6_look_112 rfl (fun hc112 => ?_) (fun hc112 => ?_)
            · skip
              have hc112 : rr ≤ c := (nI_leI (by omega) (by omega)).mp hc112
              refine pr_ret tX6_look_121 rfl ?_
              rfl
            · skip
              exact absurd ((nI_leI (by omega) (by omega)).mpr hlt) hc112
      · skip
        exact absurd ((nI_eq (by omega) (by omega)).mpr hq.2) hc46
  obtain ⟨x, h1, h2⟩ := key
  rw [h1, h2]

set_option maxRecDepth 100000 in
theorem ev_X6_look_r (σ : pST) {w c lk hw nm tn : Nat} (h4 : w < 4) (hc : c < 16) (h1 : σ.1 151 w = nI c) (hk : σ.1 8 3 = nI lk) (h2 : σ.1 147 c = nI hw) (h21 : hw ≤ 3) (h3 : σ.1 149 c = nI nm) (h31 : nm ≤ 1000) (h5 : σ.1 152 w = nI tn) (h51 : tn ≤ 1000) (hq : hw = 2 ∧ nm = tn) {σ0 : pST} {r : Int32} (hf : kX0_firstChanged (pm_ui (pm_ui (σ.1) 150 w (nI 0)) 8 3 (nI (lk + 1)), σ.2) [.inr (.inr (16 + 8 * c)), .inr (.inr 10)] = some (σ0, some (.inl r))) {o : Int32} {σa σb : pST} (hr : ¬ r = -1) (hwb : kX5_writerBelow σ0 [.inr (.inr 10), .inl r, .inl (nI c)] = some (σ0, some (.inl o))) (hn : kX3_note σ0 [.inr (.inr 144), .inl (nI c), .inl o] = some (σa, none)) (hu : kX6_undo σa [.inr (.inr 8), .inl (nI c)] = some (σb, none)) {rr : Nat} (hfe : σb.1 8 6 = 0) (hrr : σb.1 8 9 = nI rr) (hr1 : rr ≤ 16) {σc : pST} (hlt : c < rr) (hg : kX6_giveRun σb [.inr (.inr 8), .inl (nI w), .inl (nI c)] = some (σc, none)) : kX6_look σ [.inr (.inr 8), .inl (nI w)] = some ((σc, none)) := by
  have key : ∃ x, kX6_look σ [.inr (.inr 8), .inl (nI w)] = some x ∧ x = (σc, none) := by
    refine pR_met (post := fun x => x = (σc, none)) rfl (Nat.le_of_ble_eq_true rfl) ?_
    show pR _ _ _ _ _ _ _ _ 0 [(0, .inr (.inr 8)), (1, .inl (nI w))] [] σ
    refine pr_aload_n tX6_look_0 0 rfl ?_
    refine pr_geta (j := 151) tX6_look_1 rfl rfl rfl rfl ?_
    refine pr_iload_n tX6_look_4 1 rfl ?_
    refine pr_ial tX6_look_5 w rfl rfl (by omega) (by decide) ?_
    refine pR_topi (y := (nI c)) (by simp [pm_ui, pm_uj, upd, vp_updL, h1]) ?_
    refine pr_istore_n (L' := [(2, .inl (nI c)), (0, .inr (.inr 8)), (1, .inl (nI w))]) tX6_look_6 (by decide) rfl ?_
    refine pr_aload_n tX6_look_7 1 rfl ?_
    refine pr_geta (j := 150) tX6_look_8 rfl rfl rfl rfl ?_
    refine pr_iload_n tX6_look_11 2 rfl ?_
    refine pr_iconst (v := nI 0) tX6_look_12 rfl ?_
    refine pr_ias tX6_look_13 w rfl rfl (by omega) (by decide) ?_
    obtain ⟨σ1, eσ1⟩ : ∃ z : pST, z = (pm_ui σ.1 150 w (nI 0), σ.2) := ⟨_, rfl⟩
    rw [← eσ1]
    refine pr_aload_n tX6_look_14 1 rfl ?_
    refine pr_dup tX6_look_15 rfl ?_
    refine pr_get0 tX6_look_16 rfl rfl rfl ?_
    refine pR_topi (y := (nI lk)) (by simp [eσ1, pm_ui, pm_uj, upd, vp_updL, hk]) ?_
    refine pr_iconst (v := nI 1) tX6_look_19 rfl ?_
    refine pr_iadd (v := (nI (lk + 1))) tX6_look_20 (nI_add _ _) ?_
    refine pr_put0 tX6_look_21 rfl rfl rfl ?_
    obtain ⟨σ2, eσ2⟩ : ∃ z : pST, z = (pm_ui σ1.1 8 3 (nI (lk + 1)), σ1.2) := ⟨_, rfl⟩
    rw [← eσ2]
    refine pr_aload_n tX6_look_24 1 rfl ?_
    refine pr_geta (j := 147) tX6_look_25 rfl rfl rfl rfl ?_
    refine pr_iload_n tX6_look_28 0 rfl ?_
    refine pr_ial tX6_look_29 c rfl rfl (by omega) (by decide) ?_
    refine pR_topi (y := (nI hw)) (by simp [eσ1, eσ2, pm_ui, pm_uj, upd, vp_updL, h2]) ?_
    refine pr_iconst (v := nI 2) tX6_look_30 rfl ?_
    refine pr_ic_ne (pc' := 49) tX6_look_31 rfl (fun hc31 => ?_) (fun hc31 => ?_)
    · skip
      exact absurd ((nI_eq (by omega) (by omega)).mpr hq.1) hc31
    · skip
      skip
      refine pr_aload_n tX6_look_34 1 rfl ?_
      refine pr_geta (j := 149) tX6_look_35 rfl rfl rfl rfl ?_
      refine pr_iload_n tX6_look_38 0 rfl ?_
      refine pr_ial tX6_look_39 c rfl rfl (by omega) (by decide) ?_
      refine pR_topi (y := (nI nm)) (by simp [eσ1, eσ2, pm_ui, pm_uj, upd, vp_updL, h3]) ?_
      refine pr_aload_n tX6_look_40 1 rfl ?_
      refine pr_geta (j := 152) tX6_look_41 rfl rfl rfl rfl ?_
      refine pr_iload_n tX6_look_44 2 rfl ?_
      refine pr_ial tX6_look_45 w rfl rfl (by omega) (by decide) ?_
      refine pR_topi (y := (nI tn)) (by simp [eσ1, eσ2, pm_ui, pm_uj, upd, vp_updL, h5]) ?_
      refine pr_ic_eq (pc' := 50) tX6_look_46 rfl (fun hc46 => ?_) (fun hc46 => ?_)
      · skip
        skip
        refine pr_aload_n tX6_look_50 1 rfl ?_
        refine pr_geta (j := 9) tX6_look_51 rfl rfl rfl rfl ?_
        refine pr_geta (j := 15) tX6_look_54 rfl rfl rfl rfl ?_
        refine pr_iload_n tX6_look_57 0 rfl ?_
        refine pr_aal (a := 16 + 8 * c) tX6_look_58 c rfl rfl (by omega) (by decide) rfl ?_
        refine pr_aload_n tX6_look_59 1 rfl ?_
        refine pr_geta (j := 9) tX6_look_60 rfl rfl rfl rfl ?_
        refine pr_geta (j := 10) tX6_look_63 rfl rfl rfl rfl ?_
        refine pr_callV tX6_look_66 rfl ⟨Nat.le_of_ble_eq_true rfl, Nat.le_of_ble_eq_true rfl, rfl⟩ (by rw [eσ2, eσ1]; exact hf) ?_
        refine pR_eq (st' := [.inl r]) rfl rfl ?_
        refine pr_istore_n (L' := [(3, .inl r), (2, .inl (nI c)), (0, .inr (.inr 8)), (1, .inl (nI w))]) tX6_look_69 (by decide) rfl ?_
        refine pr_iload_n tX6_look_70 0 rfl ?_
        refine pr_iconst (v := -1) tX6_look_71 rfl ?_
        refine pr_ic_eq (pc' := 121) tX6_look_72 rfl (fun hc72 => ?_) (fun hc72 => ?_)
        · skip
          exact absurd hc72 hr
        · skip
          skip
          refine pr_aload_n tX6_look_75 2 rfl ?_
          refine pr_geta (j := 144) tX6_look_76 rfl rfl rfl rfl ?_
          refine pr_iload_n tX6_look_79 1 rfl ?_
          refine pr_aload_n tX6_look_80 2 rfl ?_
          refine pr_geta (j := 9) tX6_look_81 rfl rfl rfl rfl ?_
          refine pr_geta (j := 10) tX6_look_84 rfl rfl rfl rfl ?_
          refine pr_iload_n tX6_look_87 0 rfl ?_
          refine pr_iload_n tX6_look_88 1 rfl ?_
          refine pr_callV tX6_look_89 rfl ⟨Nat.le_of_ble_eq_true rfl, Nat.le_of_ble_eq_true rfl, rfl⟩ (hwb) ?_
          refine pR_eq (st' := [.inl o, .inl (nI c), .inr (.inr 144)]) rfl rfl ?_
          refine pr_callV tX6_look_92 rfl ⟨Nat.le_of_ble_eq_true rfl, Nat.le_of_ble_eq_true rfl, rfl⟩ (hn) ?_
          refine pR_eq (st' := []) rfl rfl ?_
          refine pr_aload_n tX6_look_95 2 rfl ?_
          refine pr_iload_n tX6_look_96 1 rfl ?_
          refine pr_callV tX6_look_97 rfl ⟨Nat.le_of_ble_eq_true rfl, Nat.le_of_ble_eq_true rfl, rfl⟩ (hu) ?_
          refine pR_eq (st' := []) rfl rfl ?_
          refine pr_aload_n tX6_look_100 2 rfl ?_
          refine pr_get1 tX6_look_101 rfl rfl rfl ?_
          refine pr_if_ne (pc' := 121) tX6_look_104 rfl (fun hc104 => ?_) (fun hc104 => ?_)
          · skip
            exact absurd hfe hc104
          · skip
            skip
            refine pr_aload_n tX6_look_107 2 rfl ?_
            refine pr_get0 tX6_look_108 rfl rfl rfl ?_
            refine pR_topi (y := (nI rr)) (by simp [pm_ui, pm_uj, upd, vp_updL, hrr]) ?_
            refine pr_iload_n tX6_look_111 1 rfl ?_
            refine pr_ic_le (pc' := 121) tX6_look_112 rfl (fun hc112 => ?_) (fun hc112 => ?_)
            · skip
              exact absurd ((nI_leI (by omega) (by omega)).mp hc112) (by omega)
            · skip
              have hc112 : ¬ rr ≤ c := fun z9 => hc112 ((nI_leI (by omega) (by omega)).mpr z9)
              refine pr_aload_n tX6_look_115 2 rfl ?_
              refine pr_iload_n tX6_look_116 3 rfl ?_
              refine pr_iload_n tX6_look_117 1 rfl ?_
              refine pr_callV tX6_look_118 rfl ⟨Nat.le_of_ble_eq_true rfl, Nat.le_of_ble_eq_true rfl, rfl⟩ (hg) ?_
              refine pR_eq (st' := []) rfl rfl ?_
              refine pr_ret tX6_look_121 rfl ?_
              rfl
      · skip
        exact absurd ((nI_eq (by omega) (by omega)).mpr hq.2) hc46
  obtain ⟨x, h1, h2⟩ := key
  rw [h1, h2]

set_option maxRecDepth 100000 in
theorem ev_X6_take_ll (σ : pST) {w lr rr n : Nat} (h4 : w < 4) (hlr : σ.1 8 10 = nI lr) (hl1 : lr ≤ 16) (hrr : σ.1 8 9 = nI rr) (hr1 : rr ≤ 16) (hn : σ.1 9 2 = nI n) (hn1 : n ≤ 16) {hw : Nat} (hlt : lr < rr) (h2 : σ.1 147 lr = nI hw) (hq : hw = 2) {ρ : pST} (hg : kX6_giveLook (pm_ui (σ.1) 8 10 (nI (lr + 1)), σ.2) [.inr (.inr 8), .inl (nI w), .inl (nI lr)] = some (ρ, none)) : kX6_takeTask σ [.inr (.inr 8), .inl (nI w)] = some ((ρ, none)) := by
  have key : ∃ x, kX6_takeTask σ [.inr (.inr 8), .inl (nI w)] = some x ∧ x = (ρ, none) := by
    refine pR_met (post := fun x => x = (ρ, none)) rfl (Nat.le_of_ble_eq_true rfl) ?_
    show pR _ _ _ _ _ _ _ _ 0 [(0, .inr (.inr 8)), (1, .inl (nI w))] [] σ
    refine pr_aload_n tX6_takeTask_0 0 rfl ?_
    refine pr_get0 tX6_takeTask_1 rfl rfl rfl ?_
    refine pR_topi (y := (nI lr)) (by simp [pm_ui, pm_uj, upd, vp_updL, hlr]) ?_
    refine pr_aload_n tX6_takeTask_4 0 rfl ?_
    refine pr_get0 tX6_takeTask_5 rfl rfl rfl ?_
    refine pR_topi (y := (nI rr)) (by simp [pm_ui, pm_uj, upd, vp_updL, hrr]) ?_
    refine pr_ic_ge (pc' := 45) tX6_takeTask_8 rfl (fun hc8 => ?_) (fun hc8 => ?_)
    · skip
      exact absurd ((nI_leI (by omega) (by omega)).mp hc8) (by omega)
    · skip
      have hc8 : ¬ rr ≤ lr := fun z9 => hc8 ((nI_leI (by omega) (by omega)).mpr z9)
      refine pr_aload_n tX6_takeTask_11 0 rfl ?_
      refine pr_get0 tX6_takeTask_12 rfl rfl rfl ?_
      refine pR_topi (y := (nI lr)) (by simp [pm_ui, pm_uj, upd, vp_updL, hlr]) ?_
      refine pr_istore_n (L' := [(2, .inl (nI lr)), (0, .inr (.inr 8)), (1, .inl (nI w))]) tX6_takeTask_15 (by decide) rfl ?_
      refine pr_aload_n tX6_takeTask_16 1 rfl ?_
      refine pr_dup tX6_takeTask_17 rfl ?_
      refine pr_get0 tX6_takeTask_18 rfl rfl rfl ?_
      refine pR_topi (y := (nI lr)) (by simp [pm_ui, pm_uj, upd, vp_updL, hlr]) ?_
      refine pr_iconst (v := nI 1) tX6_takeTask_21 rfl ?_
      refine pr_iadd (v := (nI (lr + 1))) tX6_takeTask_22 (nI_add _ _) ?_
      refine pr_put0 tX6_takeTask_23 rfl rfl rfl ?_
      obtain ⟨σ1, eσ1⟩ : ∃ z : pST, z = (pm_ui σ.1 8 10 (nI (lr + 1)), σ.2) := ⟨_, rfl⟩
      rw [← eσ1]
      refine pr_aload_n tX6_takeTask_26 1 rfl ?_
      refine pr_geta (j := 147) tX6_takeTask_27 rfl rfl rfl rfl ?_
      refine pr_iload_n tX6_takeTask_30 0 rfl ?_
      refine pr_ial tX6_takeTask_31 lr rfl rfl (by omega) (by decide) ?_
      refine pR_topi (y := (nI hw)) (by simp [eσ1, pm_ui, pm_uj, upd, vp_updL, h2]) ?_
      refine pr_iconst (v := nI 2) tX6_takeTask_32 rfl ?_
      refine pr_ic_ne (pc' := 42) tX6_takeTask_33 rfl (fun hc33 => ?_) (fun hc33 => ?_)
      · skip
        exact absurd ((nI_eq (by omega) (by omega)).mpr hq) hc33
      · skip
        skip
        refine pr_aload_n tX6_takeTask_36 1 rfl ?_
        refine pr_iload_n tX6_takeTask_37 2 rfl ?_
        refine pr_iload_n tX6_takeTask_38 0 rfl ?_
        refine pr_callV tX6_takeTask_39 rfl ⟨Nat.le_of_ble_eq_true rfl, Nat.le_of_ble_eq_true rfl, rfl⟩ (by rw [eσ1]; exact hg) ?_
        refine pR_eq (st' := []) rfl rfl ?_
        refine pr_goto (pc' := 89) tX6_takeTask_42 rfl ?_
        refine pr_ret tX6_takeTask_89 rfl ?_
        rfl
  obtain ⟨x, h1, h2⟩ := key
  rw [h1, h2]

set_option maxRecDepth 100000 in
theorem ev_X6_take_l (σ : pST) {w lr rr n : Nat} (h4 : w < 4) (hlr : σ.1 8 10 = nI lr) (hl1 : lr ≤ 16) (hrr : σ.1 8 9 = nI rr) (hr1 : rr ≤ 16) (hn : σ.1 9 2 = nI n) (hn1 : n ≤ 16) {hw : Nat} (hlt : lr < rr) (h2 : σ.1 147 lr = nI hw) (h21 : hw ≤ 3) (hq : ¬ hw = 2) : kX6_takeTask σ [.inr (.inr 8), .inl (nI w)] = some (((pm_ui (σ.1) 8 10 (nI (lr + 1)), σ.2), none)) := by
  have key : ∃ x, kX6_takeTask σ [.inr (.inr 8), .inl (nI w)] = some x ∧ x = ((pm_ui (σ.1) 8 10 (nI (lr + 1)), σ.2), none) := by
    refine pR_met (post := fun x => x = ((pm_ui (σ.1) 8 10 (nI (lr + 1)), σ.2), none)) rfl (Nat.le_of_ble_eq_true rfl) ?_
    show pR _ _ _ _ _ _ _ _ 0 [(0, .inr (.inr 8)), (1, .inl (nI w))] [] σ
    refine pr_aload_n tX6_takeTask_0 0 rfl ?_
    refine pr_get0 tX6_takeTask_1 rfl rfl rfl ?_
    refine pR_topi (y := (nI lr)) (by simp [pm_ui, pm_uj, upd, vp_updL, hlr]) ?_
    refine pr_aload_n tX6_takeTask_4 0 rfl ?_
    refine pr_get0 tX6_takeTask_5 rfl rfl rfl ?_
    refine pR_topi (y := (nI rr)) (by simp [pm_ui, pm_uj, upd, vp_updL, hrr]) ?_
    refine pr_ic_ge (pc' := 45) tX6_takeTask_8 rfl (fun hc8 => ?_) (fun hc8 => ?_)
    · skip
      exact absurd ((nI_leI (by omega) (by omega)).mp hc8) (by omega)
    · skip
      have hc8 : ¬ rr ≤ lr := fun z9 => hc8 ((nI_leI (by omega) (by omega)).mpr z9)
      refine pr_aload_n tX6_takeTask_11 0 rfl ?_
      refine pr_get0 tX6_takeTask_12 rfl rfl rfl ?_
      refine pR_topi (y := (nI lr)) (by simp [pm_ui, pm_uj, upd, vp_updL, hlr]) ?_
      refine pr_istore_n (L' := [(2, .inl (nI lr)), (0, .inr (.inr 8)), (1, .inl (nI w))]) tX6_takeTask_15 (by decide) rfl ?_
      refine pr_aload_n tX6_takeTask_16 1 rfl ?_
      refine pr_dup tX6_takeTask_17 rfl ?_
      refine pr_get0 tX6_takeTask_18 rfl rfl rfl ?_
      refine pR_topi (y := (nI lr)) (by simp [pm_ui, pm_uj, upd, vp_updL, hlr]) ?_
      refine pr_iconst (v := nI 1) tX6_takeTask_21 rfl ?_
      refine pr_iadd (v := (nI (lr + 1))) tX6_takeTask_22 (nI_add _ _) ?_
      refine pr_put0 tX6_takeTask_23 rfl rfl rfl ?_
      obtain ⟨σ1, eσ1⟩ : ∃ z : pST, z = (pm_ui σ.1 8 10 (nI (lr + 1)), σ.2) := ⟨_, rfl⟩
      rw [← eσ1]
      refine pr_aload_n tX6_takeTask_26 1 rfl ?_
      refine pr_geta (j := 147) tX6_takeTask_27 rfl rfl rfl rfl ?_
      refine pr_iload_n tX6_takeTask_30 0 rfl ?_
      refine pr_ial tX6_takeTask_31 lr rfl rfl (by omega) (by decide) ?_
      refine pR_topi (y := (nI hw)) (by simp [eσ1, pm_ui, pm_uj, upd, vp_updL, h2]) ?_
      refine pr_iconst (v := nI 2) tX6_takeTask_32 rfl ?_
      refine pr_ic_ne (pc' := 42) tX6_takeTask_33 rfl (fun hc33 => ?_) (fun hc33 => ?_)
      · skip
        skip
        refine pr_goto (pc' := 89) tX6_takeTask_42 rfl ?_
        refine pr_ret tX6_takeTask_89 rfl ?_
        rw [eσ1]
        try rfl
      · skip
        exact absurd ((nI_eq (by omega) (by omega)).mp (Decidable.not_not.mp hc33)) hq
  obtain ⟨x, h1, h2⟩ := key
  rw [h1, h2]

set_option maxRecDepth 100000 in
theorem ev_X6_take_rr (σ : pST) {w lr rr n : Nat} (h4 : w < 4) (hlr : σ.1 8 10 = nI lr) (hl1 : lr ≤ 16) (hrr : σ.1 8 9 = nI rr) (hr1 : rr ≤ 16) (hn : σ.1 9 2 = nI n) (hn1 : n ≤ 16) {hw : Nat} (hlt : ¬ lr < rr) (hrn : rr < n) (h2 : σ.1 147 rr = nI hw) (hq : hw = 0) {ρ : pST} (hg : kX6_giveRun (pm_ui (σ.1) 8 9 (nI (rr + 1)), σ.2) [.inr (.inr 8), .inl (nI w), .inl (nI rr)] = some (ρ, none)) : kX6_takeTask σ [.inr (.inr 8), .inl (nI w)] = some ((ρ, none)) := by
  have key : ∃ x, kX6_takeTask σ [.inr (.inr 8), .inl (nI w)] = some x ∧ x = (ρ, none) := by
    refine pR_met (post := fun x => x = (ρ, none)) rfl (Nat.le_of_ble_eq_true rfl) ?_
    show pR _ _ _ _ _ _ _ _ 0 [(0, .inr (.inr 8)), (1, .inl (nI w))] [] σ
    refine pr_aload_n tX6_takeTask_0 0 rfl ?_
    refine pr_get0 tX6_takeTask_1 rfl rfl rfl ?_
    refine pR_topi (y := (nI lr)) (by simp [pm_ui, pm_uj, upd, vp_updL, hlr]) ?_
    refine pr_aload_n tX6_takeTask_4 0 rfl ?_
    refine pr_get0 tX6_takeTask_5 rfl rfl rfl ?_
    refine pR_topi (y := (nI rr)) (by simp [pm_ui, pm_uj, upd, vp_updL, hrr]) ?_
    refine pr_ic_ge (pc' := 45) tX6_takeTask_8 rfl (fun hc8 => ?_) (fun hc8 => ?_)
    · skip
      have hc8 : rr ≤ lr := (nI_leI (by omega) (by omega)).mp hc8
      refine pr_aload_n tX6_takeTask_45 0 rfl ?_
      refine pr_get0 tX6_takeTask_46 rfl rfl rfl ?_
      refine pR_topi (y := (nI rr)) (by simp [pm_ui, pm_uj, upd, vp_updL, hrr]) ?_
      refine pr_aload_n tX6_takeTask_49 0 rfl ?_
      refine pr_geta (j := 9) tX6_takeTask_50 rfl rfl rfl rfl ?_
      refine pr_get0 tX6_takeTask_53 rfl rfl rfl ?_
      refine pR_topi (y := (nI n)) (by simp [pm_ui, pm_uj, upd, vp_updL, hn]) ?_
      refine pr_ic_ge (pc' := 89) tX6_takeTask_56 rfl (fun hc56 => ?_) (fun hc56 => ?_)
      · skip
        exact absurd ((nI_leI (by omega) (by omega)).mp hc56) (by omega)
      · skip
        have hc56 : ¬ n ≤ rr := fun z9 => hc56 ((nI_leI (by omega) (by omega)).mpr z9)
        refine pr_aload_n tX6_takeTask_59 0 rfl ?_
        refine pr_get0 tX6_takeTask_60 rfl rfl rfl ?_
        refine pR_topi (y := (nI rr)) (by simp [pm_ui, pm_uj, upd, vp_updL, hrr]) ?_
        refine pr_istore_n (L' := [(2, .inl (nI rr)), (0, .inr (.inr 8)), (1, .inl (nI w))]) tX6_takeTask_63 (by decide) rfl ?_
        refine pr_aload_n tX6_takeTask_64 1 rfl ?_
        refine pr_dup tX6_takeTask_65 rfl ?_
        refine pr_get0 tX6_takeTask_66 rfl rfl rfl ?_
        refine pR_topi (y := (nI rr)) (by simp [pm_ui, pm_uj, upd, vp_updL, hrr]) ?_
        refine pr_iconst (v := nI 1) tX6_takeTask_69 rfl ?_
        refine pr_iadd (v := (nI (rr + 1))) tX6_takeTask_70 (nI_add _ _) ?_
        refine pr_put0 tX6_takeTask_71 rfl rfl rfl ?_
        obtain ⟨σ1, eσ1⟩ : ∃ z : pST, z = (pm_ui σ.1 8 9 (nI (rr + 1)), σ.2) := ⟨_, rfl⟩
        rw [← eσ1]
        refine pr_aload_n tX6_takeTask_74 1 rfl ?_
        refine pr_geta (j := 147) tX6_takeTask_75 rfl rfl rfl rfl ?_
        refine pr_iload_n tX6_takeTask_78 0 rfl ?_
        refine pr_ial tX6_takeTask_79 rr rfl rfl (by omega) (by decide) ?_
        refine pR_topi (y := (nI hw)) (by simp [eσ1, pm_ui, pm_uj, upd, vp_updL, h2]) ?_
        refine pr_if_ne (pc' := 89) tX6_takeTask_80 rfl (fun hc80 => ?_) (fun hc80 => ?_)
        · skip
          exact absurd (by rw [hq, nI_0]) hc80
        · skip
          skip
          refine pr_aload_n tX6_takeTask_83 1 rfl ?_
          refine pr_iload_n tX6_takeTask_84 2 rfl ?_
          refine pr_iload_n tX6_takeTask_85 0 rfl ?_
          refine pr_callV tX6_takeTask_86 rfl ⟨Nat.le_of_ble_eq_true rfl, Nat.le_of_ble_eq_true rfl, rfl⟩ (by rw [eσ1]; exact hg) ?_
          refine pR_eq (st' := []) rfl rfl ?_
          refine pr_ret tX6_takeTask_89 rfl ?_
          rfl
    · skip
      exact absurd ((nI_leI (by omega) (by omega)).mpr (by omega)) hc8
  obtain ⟨x, h1, h2⟩ := key
  rw [h1, h2]

set_option maxRecDepth 100000 in
theorem ev_X6_take_r (σ : pST) {w lr rr n : Nat} (h4 : w < 4) (hlr : σ.1 8 10 = nI lr) (hl1 : lr ≤ 16) (hrr : σ.1 8 9 = nI rr) (hr1 : rr ≤ 16) (hn : σ.1 9 2 = nI n) (hn1 : n ≤ 16) {hw : Nat} (hlt : ¬ lr < rr) (hrn : rr < n) (h2 : σ.1 147 rr = nI hw) (h21 : hw ≤ 3) (hq : ¬ hw = 0) : kX6_takeTask σ [.inr (.inr 8), .inl (nI w)] = some (((pm_ui (σ.1) 8 9 (nI (rr + 1)), σ.2), none)) := by
  have key : ∃ x, kX6_takeTask σ [.inr (.inr 8), .inl (nI w)] = some x ∧ x = ((pm_ui (σ.1) 8 9 (nI (rr + 1)), σ.2), none) := by
    refine pR_met (post := fun x => x = ((pm_ui (σ.1) 8 9 (nI (rr + 1)), σ.2), none)) rfl (Nat.le_of_ble_eq_true rfl) ?_
    show pR _ _ _ _ _ _ _ _ 0 [(0, .inr (.inr 8)), (1, .inl (nI w))] [] σ
    refine pr_aload_n tX6_takeTask_0 0 rfl ?_
    refine pr_get0 tX6_takeTask_1 rfl rfl rfl ?_
    refine pR_topi (y := (nI lr)) (by simp [pm_ui, pm_uj, upd, vp_updL, hlr]) ?_
    refine pr_aload_n tX6_takeTask_4 0 rfl ?_
    refine pr_get0 tX6_takeTask_5 rfl rfl rfl ?_
    refine pR_topi (y := (nI rr)) (by simp [pm_ui, pm_uj, upd, vp_updL, hrr]) ?_
    refine pr_ic_ge (pc' := 45) tX6_takeTask_8 rfl (fun hc8 => ?_) (fun hc8 => ?_)
    · skip
      have hc8 : rr ≤ lr := (nI_leI (by omega) (by omega)).mp hc8
      refine pr_aload_n tX6_takeTask_45 0 rfl ?_
      refine pr_get0 tX6_takeTask_46 rfl rfl rfl ?_
      refine pR_topi (y := (nI rr)) (by simp [pm_ui, pm_uj, upd, vp_updL, hrr]) ?_
      refine pr_aload_n tX6_takeTask_49 0 rfl ?_
      refine pr_geta (j := 9) tX6_takeTask_50 rfl rfl rfl rfl ?_
      refine pr_get0 tX6_takeTask_53 rfl rfl rfl ?_
      refine pR_topi (y := (nI n)) (by simp [pm_ui, pm_uj, upd, vp_updL, hn]) ?_
      refine pr_ic_ge (pc' := 89) tX6_takeTask_56 rfl (fun hc56 => ?_) (fun hc56 => ?_)
      · skip
        exact absurd ((nI_leI (by omega) (by omega)).mp hc56) (by omega)
      · skip
        have hc56 : ¬ n ≤ rr := fun z9 => hc56 ((nI_leI (by omega) (by omega)).mpr z9)
        refine pr_aload_n tX6_takeTask_59 0 rfl ?_
        refine pr_get0 tX6_takeTask_60 rfl rfl rfl ?_
        refine pR_topi (y := (nI rr)) (by simp [pm_ui, pm_uj, upd, vp_updL, hrr]) ?_
        refine pr_istore_n (L' := [(2, .inl (nI rr)), (0, .inr (.inr 8)), (1, .inl (nI w))]) tX6_takeTask_63 (by decide) rfl ?_
        refine pr_aload_n tX6_takeTask_64 1 rfl ?_
        refine pr_dup tX6_takeTask_65 rfl ?_
        refine pr_get0 tX6_takeTask_66 rfl rfl rfl ?_
        refine pR_topi (y := (nI rr)) (by simp [pm_ui, pm_uj, upd, vp_updL, hrr]) ?_
        refine pr_iconst (v := nI 1) tX6_takeTask_69 rfl ?_
        refine pr_iadd (v := (nI (rr + 1))) tX6_takeTask_70 (nI_add _ _) ?_
        refine pr_put0 tX6_takeTask_71 rfl rfl rfl ?_
        obtain ⟨σ1, eσ1⟩ : ∃ z : pST, z = (pm_ui σ.1 8 9 (nI (rr + 1)), σ.2) := ⟨_, rfl⟩
        rw [← eσ1]
        refine pr_aload_n tX6_takeTask_74 1 rfl ?_
        refine pr_geta (j := 147) tX6_takeTask_75 rfl rfl rfl rfl ?_
        refine pr_iload_n tX6_takeTask_78 0 rfl ?_
        refine pr_ial tX6_takeTask_79 rr rfl rfl (by omega) (by decide) ?_
        refine pR_topi (y := (nI hw)) (by simp [eσ1, pm_ui, pm_uj, upd, vp_updL, h2]) ?_
        refine pr_if_ne (pc' := 89) tX6_takeTask_80 rfl (fun hc80 => ?_) (fun hc80 => ?_)
        · skip
          skip
          refine pr_ret tX6_takeTask_89 rfl ?_
          rw [eσ1]
          try rfl
        · skip
          exact absurd (nI_ne0 (by omega) (by omega)) hc80
    · skip
      exact absurd ((nI_leI (by omega) (by omega)).mpr (by omega)) hc8
  obtain ⟨x, h1, h2⟩ := key
  rw [h1, h2]

set_option maxRecDepth 100000 in
theorem ev_X6_take_i (σ : pST) {w lr rr n : Nat} (h4 : w < 4) (hlr : σ.1 8 10 = nI lr) (hl1 : lr ≤ 16) (hrr : σ.1 8 9 = nI rr) (hr1 : rr ≤ 16) (hn : σ.1 9 2 = nI n) (hn1 : n ≤ 16) (hlt : ¬ lr < rr) (hrn : ¬ rr < n) : kX6_takeTask σ [.inr (.inr 8), .inl (nI w)] = some ((σ, none)) := by
  have key : ∃ x, kX6_takeTask σ [.inr (.inr 8), .inl (nI w)] = some x ∧ x = (σ, none) := by
    refine pR_met (post := fun x => x = (σ, none)) rfl (Nat.le_of_ble_eq_true rfl) ?_
    show pR _ _ _ _ _ _ _ _ 0 [(0, .inr (.inr 8)), (1, .inl (nI w))] [] σ
    refine pr_aload_n tX6_takeTask_0 0 rfl ?_
    refine pr_get0 tX6_takeTask_1 rfl rfl rfl ?_
    refine pR_topi (y := (nI lr)) (by simp [pm_ui, pm_uj, upd, vp_updL, hlr]) ?_
    refine pr_aload_n tX6_takeTask_4 0 rfl ?_
    refine pr_get0 tX6_takeTask_5 rfl rfl rfl ?_
    refine pR_topi (y := (nI rr)) (by simp [pm_ui, pm_uj, upd, vp_updL, hrr]) ?_
    refine pr_ic_ge (pc' := 45) tX6_takeTask_8 rfl (fun hc8 => ?_) (fun hc8 => ?_)
    · skip
      have hc8 : rr ≤ lr := (nI_leI (by omega) (by omega)).mp hc8
      refine pr_aload_n tX6_takeTask_45 0 rfl ?_
      refine pr_get0 tX6_takeTask_46 rfl rfl rfl ?_
      refine pR_topi (y := (nI rr)) (by simp [pm_ui, pm_uj, upd, vp_updL, hrr]) ?_
      refine pr_aload_n tX6_takeTask_49 0 rfl ?_
      refine pr_geta (j := 9) tX6_takeTask_50 rfl rfl rfl rfl ?_
      refine pr_get0 tX6_takeTask_53 rfl rfl rfl ?_
      refine pR_topi (y := (nI n)) (by simp [pm_ui, pm_uj, upd, vp_updL, hn]) ?_
      refine pr_ic_ge (pc' := 89) tX6_takeTask_56 rfl (fun hc56 => ?_) (fun hc56 => ?_)
      · skip
        have hc56 : n ≤ rr := (nI_leI (by omega) (by omega)).mp hc56
        refine pr_ret tX6_takeTask_89 rfl ?_
        rfl
      · skip
        exact absurd ((nI_leI (by omega) (by omega)).mpr (by omega)) hc56
    · skip
      exact absurd ((nI_leI (by omega) (by omega)).mpr (by omega)) hc8
  obtain ⟨x, h1, h2⟩ := key
  rw [h1, h2]

set_option maxRecDepth 100000 in
theorem ev_X6_step_1 (σ : pST) {w : Nat} {ρ : pST} (h4 : w < 4) (ht : σ.1 150 w = nI 1) (hg : kX6_goOn σ [.inr (.inr 8), .inl (nI w), .inr (.inr 2)] = some (ρ, none)) : kX6_step σ [.inr (.inr 8), .inl (nI w), .inr (.inr 2)] = some ((ρ, none)) := by
  have key : ∃ x, kX6_step σ [.inr (.inr 8), .inl (nI w), .inr (.inr 2)] = some x ∧ x = (ρ, none) := by
    refine pR_met (post := fun x => x = (ρ, none)) rfl (Nat.le_of_ble_eq_true rfl) ?_
    show pR _ _ _ _ _ _ _ _ 0 [(0, .inr (.inr 8)), (1, .inl (nI w)), (2, .inr (.inr 2))] [] σ
    refine pr_aload_n tX6_step_0 0 rfl ?_
    refine pr_geta (j := 150) tX6_step_1 rfl rfl rfl rfl ?_
    refine pr_iload_n tX6_step_4 1 rfl ?_
    refine pr_ial tX6_step_5 w rfl rfl (by omega) (by decide) ?_
    refine pR_topi (y := (nI 1)) (by simp [pm_ui, pm_uj, upd, vp_updL, ht]) ?_
    refine pr_lsw (off := 26) (pc' := 32) tX6_step_6 rfl rfl rfl ?_
    refine pr_aload_n tX6_step_32 0 rfl ?_
    refine pr_iload_n tX6_step_33 1 rfl ?_
    refine pr_aload_n tX6_step_34 2 rfl ?_
    refine pr_callV tX6_step_35 rfl ⟨Nat.le_of_ble_eq_true rfl, Nat.le_of_ble_eq_true rfl, rfl⟩ (hg) ?_
    refine pR_eq (st' := []) rfl rfl ?_
    refine pr_goto (pc' := 54) tX6_step_38 rfl ?_
    refine pr_ret tX6_step_54 rfl ?_
    rfl
  obtain ⟨x, h1, h2⟩ := key
  rw [h1, h2]

set_option maxRecDepth 100000 in
theorem ev_X6_step_2 (σ : pST) {w : Nat} {ρ : pST} (h4 : w < 4) (ht : σ.1 150 w = nI 2) (hg : kX6_look σ [.inr (.inr 8), .inl (nI w)] = some (ρ, none)) : kX6_step σ [.inr (.inr 8), .inl (nI w), .inr (.inr 2)] = some ((ρ, none)) := by
  have key : ∃ x, kX6_step σ [.inr (.inr 8), .inl (nI w), .inr (.inr 2)] = some x ∧ x = (ρ, none) := by
    refine pR_met (post := fun x => x = (ρ, none)) rfl (Nat.le_of_ble_eq_true rfl) ?_
    show pR _ _ _ _ _ _ _ _ 0 [(0, .inr (.inr 8)), (1, .inl (nI w)), (2, .inr (.inr 2))] [] σ
    refine pr_aload_n tX6_step_0 0 rfl ?_
    refine pr_geta (j := 150) tX6_step_1 rfl rfl rfl rfl ?_
    refine pr_iload_n tX6_step_4 1 rfl ?_
    refine pr_ial tX6_step_5 w rfl rfl (by omega) (by decide) ?_
    refine pR_topi (y := (nI 2)) (by simp [pm_ui, pm_uj, upd, vp_updL, ht]) ?_
    refine pr_lsw (off := 35) (pc' := 41) tX6_step_6 rfl rfl rfl ?_
    refine pr_aload_n tX6_step_41 0 rfl ?_
    refine pr_iload_n tX6_step_42 1 rfl ?_
    refine pr_callV tX6_step_43 rfl ⟨Nat.le_of_ble_eq_true rfl, Nat.le_of_ble_eq_true rfl, rfl⟩ (hg) ?_
    refine pR_eq (st' := []) rfl rfl ?_
    refine pr_goto (pc' := 54) tX6_step_46 rfl ?_
    refine pr_ret tX6_step_54 rfl ?_
    rfl
  obtain ⟨x, h1, h2⟩ := key
  rw [h1, h2]

set_option maxRecDepth 100000 in
theorem ev_X6_step_0 (σ : pST) {w : Nat} {ρ : pST} (h4 : w < 4) (ht : σ.1 150 w = nI 0) (hg : kX6_takeTask σ [.inr (.inr 8), .inl (nI w)] = some (ρ, none)) : kX6_step σ [.inr (.inr 8), .inl (nI w), .inr (.inr 2)] = some ((ρ, none)) := by
  have key : ∃ x, kX6_step σ [.inr (.inr 8), .inl (nI w), .inr (.inr 2)] = some x ∧ x = (ρ, none) := by
    refine pR_met (post := fun x => x = (ρ, none)) rfl (Nat.le_of_ble_eq_true rfl) ?_
    show pR _ _ _ _ _ _ _ _ 0 [(0, .inr (.inr 8)), (1, .inl (nI w)), (2, .inr (.inr 2))] [] σ
    refine pr_aload_n tX6_step_0 0 rfl ?_
    refine pr_geta (j := 150) tX6_step_1 rfl rfl rfl rfl ?_
    refine pr_iload_n tX6_step_4 1 rfl ?_
    refine pr_ial tX6_step_5 w rfl rfl (by omega) (by decide) ?_
    refine pR_topi (y := (nI 0)) (by simp [pm_ui, pm_uj, upd, vp_updL, ht]) ?_
    refine pr_lsw (off := 43) (pc' := 49) tX6_step_6 rfl rfl rfl ?_
    refine pr_aload_n tX6_step_49 0 rfl ?_
    refine pr_iload_n tX6_step_50 1 rfl ?_
    refine pr_callV tX6_step_51 rfl ⟨Nat.le_of_ble_eq_true rfl, Nat.le_of_ble_eq_true rfl, rfl⟩ (hg) ?_
    refine pR_eq (st' := []) rfl rfl ?_
    refine pr_ret tX6_step_54 rfl ?_
    rfl
  obtain ⟨x, h1, h2⟩ := key
  rw [h1, h2]

def wkI (I : Nat → Nat → Int32) (S : RnS) (c m : Nat) : Nat → Nat → Int32 := fun x y => if x = 147 ∧ y < m ∧ wokeS S c y then nI 0 else if x = 8 ∧ y = 9 then nI (wakeR S c m S.rr) else I x y
theorem wkI_0 {I : Nat → Nat → Int32} {S : RnS} {c : Nat} (h : I 8 9 = nI S.rr) : wkI I S c 0 = I := by
  funext x y
  unfold wkI
  rw [if_neg (by omega)]
  by_cases h8 : x = 8 ∧ y = 9
  · obtain ⟨h1, h2⟩ := h8
    subst h1; subst h2
    rw [if_pos ⟨rfl, rfl⟩, h]
    rfl
  · rw [if_neg h8]
theorem wkI_t {I : Nat → Nat → Int32} {S : RnS} {c i : Nat} (h : wokeS S c i) : pm_ui (pm_ui (wkI I S c i) 147 i (nI 0)) 8 9 (nI (min (wakeR S c i S.rr) i)) = wkI I S c (i + 1) := by
  funext x y
  simp only [pm_ui_a, wkI]
  by_cases h8 : x = 8 ∧ y = 9
  · have h7 : ¬ (x = 147 ∧ y < i + 1 ∧ wokeS S c y) := fun z => by have := z.1; omega
    rw [if_pos h8, if_neg h7, if_pos h8]
    show _ = nI (if wokeS S c i then _ else _)
    rw [if_pos h]
  · rw [if_neg h8]
    by_cases h7 : x = 147 ∧ y = i
    · obtain ⟨h1, h2⟩ := h7
      subst h1; subst h2
      rw [if_pos ⟨rfl, rfl⟩, if_pos ⟨rfl, by omega, h⟩]
    · rw [if_neg h7]
      by_cases h1 : x = 147 ∧ y < i ∧ wokeS S c y
      · rw [if_pos h1, if_pos ⟨h1.1, by omega, h1.2.2⟩]
      · rw [if_neg h1, if_neg h8, if_neg (fun z => h1 ⟨z.1, by have := z.2.1; have : y ≠ i := fun q => h7 ⟨z.1, q⟩; omega, z.2.2⟩), if_neg h8]
theorem wkI_f {I : Nat → Nat → Int32} {S : RnS} {c i : Nat} (h : ¬ wokeS S c i) : wkI I S c i = wkI I S c (i + 1) := by
  funext x y
  unfold wkI
  by_cases h1 : x = 147 ∧ y < i ∧ wokeS S c y
  · rw [if_pos h1, if_pos ⟨h1.1, by omega, h1.2.2⟩]
  · have h2 : ¬ (x = 147 ∧ y < i + 1 ∧ wokeS S c y) := fun z => h1 ⟨z.1, by have := z.2.1; have : y ≠ i := fun q => h (q ▸ z.2.2); omega, z.2.2⟩
    rw [if_neg h1, if_neg h2]
    by_cases h8 : x = 8 ∧ y = 9
    · rw [if_pos h8, if_pos h8]
      show _ = nI (if wokeS S c i then _ else _)
      rw [if_neg h]
    · rw [if_neg h8, if_neg h8]

set_option maxRecDepth 100000 in
theorem lp_X6_wakeThoseWaitingFor (σ : pST) {S : RnS} {c n : Nat} (hc : c < 16) (hn : σ.1 9 2 = nI n) (hn1 : n ≤ 16) (hr1 : S.rr ≤ 16) (hH : ∀ i, i < n → σ.1 147 i = nI (S.hw i) ∧ S.hw i ≤ 3 ∧ (S.hw i = 3 → σ.1 148 i = nI (S.aw i) ∧ S.aw i < 16)) : ∀ (m i : Nat), i + m = n → pR shX tX6_wakeThoseWaitingFor fX6_wakeThoseWaitingFor qX6_wakeThoseWaitingFor lX6_wakeThoseWaitingFor 3 0 (fun x => x = ((wkI σ.1 S c n, σ.2), none)) 2 [(2, .inl (nI i)), (0, .inr (.inr 8)), (1, .inl (nI c))] [] (wkI σ.1 S c i, σ.2) := by
  intro m
  induction m with
  | zero =>
    intro i hi
    refine pr_iload_n tX6_wakeThoseWaitingFor_2 0 rfl ?_
    refine pr_aload_n tX6_wakeThoseWaitingFor_3 1 rfl ?_
    refine pr_geta (j := 9) tX6_wakeThoseWaitingFor_4 rfl rfl rfl rfl ?_
    refine pr_get0 tX6_wakeThoseWaitingFor_7 rfl rfl rfl ?_
    refine pR_topi (y := (nI n)) (by have z := hn; simpa [wkI] using z) ?_
    refine pr_ic_ge (pc' := 58) tX6_wakeThoseWaitingFor_10 rfl (fun hc10 => ?_) (fun hc10 => ?_)
    · skip
      have hc10 : n ≤ i := (nI_leI (by omega) (by omega)).mp hc10
      refine pr_ret tX6_wakeThoseWaitingFor_58 rfl ?_
      rw [show i = n by omega]
    · skip
      exact absurd ((nI_leI (by omega) (by omega)).mpr (by omega)) hc10
  | succ m ih =>
    intro i hi
    refine pr_iload_n tX6_wakeThoseWaitingFor_2 0 rfl ?_
    refine pr_aload_n tX6_wakeThoseWaitingFor_3 1 rfl ?_
    refine pr_geta (j := 9) tX6_wakeThoseWaitingFor_4 rfl rfl rfl rfl ?_
    refine pr_get0 tX6_wakeThoseWaitingFor_7 rfl rfl rfl ?_
    refine pR_topi (y := (nI n)) (by have z := hn; simpa [wkI] using z) ?_
    refine pr_ic_ge (pc' := 58) tX6_wakeThoseWaitingFor_10 rfl (fun hc10 => ?_) (fun hc10 => ?_)
    · skip
      exact absurd ((nI_leI (by omega) (by omega)).mp hc10) (by omega)
    · skip
      have hc10 : ¬ n ≤ i := fun z9 => hc10 ((nI_leI (by omega) (by omega)).mpr z9)
      obtain ⟨hh1, hh2, hh3⟩ := hH i (by omega)
      refine pr_aload_n tX6_wakeThoseWaitingFor_13 1 rfl ?_
      refine pr_geta (j := 147) tX6_wakeThoseWaitingFor_14 rfl rfl rfl rfl ?_
      refine pr_iload_n tX6_wakeThoseWaitingFor_17 0 rfl ?_
      refine pr_ial tX6_wakeThoseWaitingFor_18 i rfl rfl (by omega) (by decide) ?_
      refine pR_topi (y := (nI (S.hw i))) (by have z := hh1; simpa [wkI] using z) ?_
      refine pr_iconst (v := nI 3) tX6_wakeThoseWaitingFor_19 rfl ?_
      refine pr_ic_ne (pc' := 52) tX6_wakeThoseWaitingFor_20 rfl (fun hc20 => ?_) (fun hc20 => ?_)
      · skip
        have hc20 : ¬ (S.hw i) = 3 := fun z9 => hc20 ((nI_eq (by omega) (by omega)).mpr z9)
        refine pr_iinc (v := (nI (i + 1))) (L' := [(2, .inl (nI (i + 1))), (0, .inr (.inr 8)), (1, .inl (nI c))]) tX6_wakeThoseWaitingFor_52 0 rfl (nI_1 _) (by decide) rfl ?_
        refine pr_goto (pc' := 2) tX6_wakeThoseWaitingFor_55 rfl ?_
        refine pR_sub (L' := [(2, .inl (nI (i + 1))), (0, .inr (.inr 8)), (1, .inl (nI c))]) [0, 1, 2] rfl ?_
        have e9 : ((wkI σ.1 S c i, σ.2) : pST) = (wkI σ.1 S c (i + 1), σ.2) := by rw [wkI_f (by grind)]
        rw [e9]
        exact ih (i + 1) (by omega)
      · skip
        have hc20 : (S.hw i) = 3 := (nI_eq (by omega) (by omega)).mp (Decidable.not_not.mp hc20)
        obtain ⟨hh4, hh5⟩ := hh3 hc20
        refine pr_aload_n tX6_wakeThoseWaitingFor_23 1 rfl ?_
        refine pr_geta (j := 148) tX6_wakeThoseWaitingFor_24 rfl rfl rfl rfl ?_
        refine pr_iload_n tX6_wakeThoseWaitingFor_27 0 rfl ?_
        refine pr_ial tX6_wakeThoseWaitingFor_28 i rfl rfl (by omega) (by decide) ?_
        refine pR_topi (y := (nI (S.aw i))) (by have z := hh4; simpa [wkI] using z) ?_
        refine pr_iload_n tX6_wakeThoseWaitingFor_29 2 rfl ?_
        refine pr_ic_ne (pc' := 52) tX6_wakeThoseWaitingFor_30 rfl (fun hc30 => ?_) (fun hc30 => ?_)
        · skip
          have hc30 : ¬ (S.aw i) = c := fun z9 => hc30 ((nI_eq (by omega) (by omega)).mpr z9)
          refine pr_iinc (v := (nI (i + 1))) (L' := [(2, .inl (nI (i + 1))), (0, .inr (.inr 8)), (1, .inl (nI c))]) tX6_wakeThoseWaitingFor_52 0 rfl (nI_1 _) (by decide) rfl ?_
          refine pr_goto (pc' := 2) tX6_wakeThoseWaitingFor_55 rfl ?_
          refine pR_sub (L' := [(2, .inl (nI (i + 1))), (0, .inr (.inr 8)), (1, .inl (nI c))]) [0, 1, 2] rfl ?_
          have e9 : ((wkI σ.1 S c i, σ.2) : pST) = (wkI σ.1 S c (i + 1), σ.2) := by rw [wkI_f (by grind)]
          rw [e9]
          exact ih (i + 1) (by omega)
        · skip
          have hc30 : (S.aw i) = c := (nI_eq (by omega) (by omega)).mp (Decidable.not_not.mp hc30)
          refine pr_aload_n tX6_wakeThoseWaitingFor_33 1 rfl ?_
          refine pr_geta (j := 147) tX6_wakeThoseWaitingFor_34 rfl rfl rfl rfl ?_
          refine pr_iload_n tX6_wakeThoseWaitingFor_37 0 rfl ?_
          refine pr_iconst (v := nI 0) tX6_wakeThoseWaitingFor_38 rfl ?_
          refine pr_ias tX6_wakeThoseWaitingFor_39 i rfl rfl (by omega) (by decide) ?_
          obtain ⟨σ1, eσ1⟩ : ∃ z : pST, z = (pm_ui (wkI σ.1 S c i, σ.2).1 147 i (nI 0), (wkI σ.1 S c i, σ.2).2) := ⟨_, rfl⟩
          rw [← eσ1]
          refine pr_aload_n tX6_wakeThoseWaitingFor_40 1 rfl ?_
          refine pr_aload_n tX6_wakeThoseWaitingFor_41 1 rfl ?_
          refine pr_get0 tX6_wakeThoseWaitingFor_42 rfl rfl rfl ?_
          refine pR_topi (y := (nI (wakeR S c i S.rr))) (by simp [eσ1, pm_ui_a, wkI]) ?_
          refine pr_iload_n tX6_wakeThoseWaitingFor_45 0 rfl ?_
          refine pr_callS tX6_wakeThoseWaitingFor_46 rfl ⟨Nat.le_of_ble_eq_true rfl, Nat.le_of_ble_eq_true rfl, rfl⟩ (ev_min _ (by have := wakeR_le (S := S) (c := c) i S.rr; omega) (by omega)) ?_
          refine pR_eq (st' := [.inl (nI (min (wakeR S c i S.rr) i)), .inr (.inr 8)]) rfl rfl ?_
          refine pr_put0 tX6_wakeThoseWaitingFor_49 rfl rfl rfl ?_
          obtain ⟨σ2, eσ2⟩ : ∃ z : pST, z = (pm_ui σ1.1 8 9 (nI (min (wakeR S c i S.rr) i)), σ1.2) := ⟨_, rfl⟩
          rw [← eσ2]
          refine pr_iinc (v := (nI (i + 1))) (L' := [(2, .inl (nI (i + 1))), (0, .inr (.inr 8)), (1, .inl (nI c))]) tX6_wakeThoseWaitingFor_52 0 rfl (nI_1 _) (by decide) rfl ?_
          refine pr_goto (pc' := 2) tX6_wakeThoseWaitingFor_55 rfl ?_
          refine pR_sub (L' := [(2, .inl (nI (i + 1))), (0, .inr (.inr 8)), (1, .inl (nI c))]) [0, 1, 2] rfl ?_
          have e9 : σ2 = (wkI σ.1 S c (i + 1), σ.2) := by rw [eσ2, eσ1]; exact Prod.ext (wkI_t ⟨hc20, hc30⟩) rfl
          rw [e9]
          exact ih (i + 1) (by omega)

set_option maxRecDepth 100000 in
theorem ev_X6_wakeThoseWaitingFor (σ : pST) {S : RnS} {c n : Nat} (hc : c < 16) (hn : σ.1 9 2 = nI n) (hn1 : n ≤ 16) (hr1 : S.rr ≤ 16) (hH : ∀ i, i < n → σ.1 147 i = nI (S.hw i) ∧ S.hw i ≤ 3 ∧ (S.hw i = 3 → σ.1 148 i = nI (S.aw i) ∧ S.aw i < 16)) (hrr : σ.1 8 9 = nI S.rr) : kX6_wakeThoseWaitingFor σ [.inr (.inr 8), .inl (nI c)] = some (((wkI σ.1 S c n, σ.2), none)) := by
  have key : ∃ x, kX6_wakeThoseWaitingFor σ [.inr (.inr 8), .inl (nI c)] = some x ∧ x = ((wkI σ.1 S c n, σ.2), none) := by
    refine pR_met (post := fun x => x = ((wkI σ.1 S c n, σ.2), none)) rfl (Nat.le_of_ble_eq_true rfl) ?_
    show pR _ _ _ _ _ _ _ _ 0 [(0, .inr (.inr 8)), (1, .inl (nI c))] [] σ
    refine pr_iconst (v := nI 0) tX6_wakeThoseWaitingFor_0 rfl ?_
    refine pr_istore_n (L' := [(2, .inl (nI 0)), (0, .inr (.inr 8)), (1, .inl (nI c))]) tX6_wakeThoseWaitingFor_1 (by decide) rfl ?_
    refine pR_sub (L' := [(2, .inl (nI 0)), (0, .inr (.inr 8)), (1, .inl (nI c))]) [0, 1, 2] rfl ?_
    have e9 : σ = (wkI σ.1 S c 0, σ.2) := by rw [wkI_0 hrr]
    rw [show pR _ _ _ _ _ _ _ _ 2 [(2, .inl (nI 0)), (0, .inr (.inr 8)), (1, .inl (nI c))] [] σ ↔ pR _ _ _ _ _ _ _ _ 2 [(2, .inl (nI 0)), (0, .inr (.inr 8)), (1, .inl (nI c))] [] (wkI σ.1 S c 0, σ.2) from by rw [← e9]]
    exact lp_X6_wakeThoseWaitingFor σ hc hn hn1 hr1 hH n 0 (by omega)
  obtain ⟨x, h1, h2⟩ := key
  rw [h1, h2]

set_option maxRecDepth 100000 in
theorem lp_X6_isDone_t (σ : pST) {sz : Nat} {tk : Nat → Nat} (hz : σ.1 8 7 = nI sz) (hz1 : sz ≤ 4) (hT : ∀ w, w < sz → σ.1 150 w = nI (tk w) ∧ tk w ≤ 2) : ∀ (m i : Nat), i + m = sz → (∀ w, i ≤ w → w < sz → tk w = 0) → pR shX tX6_isDone fX6_isDone qX6_isDone lX6_isDone 2 2 (fun x => x = (σ, some (.inl (nI 1)))) 32 [(1, .inl (nI i)), (0, .inr (.inr 8))] [] σ := by
  intro m
  induction m with
  | zero =>
    intro i hi ha
    refine pr_iload_n tX6_isDone_32 0 rfl ?_
    refine pr_aload_n tX6_isDone_33 1 rfl ?_
    refine pr_get0 tX6_isDone_34 rfl rfl rfl ?_
    refine pR_topi (y := (nI sz)) (by simp [pm_ui, pm_uj, upd, vp_updL, hz]) ?_
    refine pr_ic_ge (pc' := 57) tX6_isDone_37 rfl (fun hc37 => ?_) (fun hc37 => ?_)
    · skip
      have hc37 : sz ≤ i := (nI_leI (by omega) (by omega)).mp hc37
      refine pr_iconst (v := nI 1) tX6_isDone_57 rfl ?_
      refine pr_zret tX6_isDone_58 rfl (by decide) ?_
      rfl
    · skip
      exact absurd ((nI_leI (by omega) (by omega)).mpr (by omega)) hc37
  | succ m ih =>
    intro i hi ha
    refine pr_iload_n tX6_isDone_32 0 rfl ?_
    refine pr_aload_n tX6_isDone_33 1 rfl ?_
    refine pr_get0 tX6_isDone_34 rfl rfl rfl ?_
    refine pR_topi (y := (nI sz)) (by simp [pm_ui, pm_uj, upd, vp_updL, hz]) ?_
    refine pr_ic_ge (pc' := 57) tX6_isDone_37 rfl (fun hc37 => ?_) (fun hc37 => ?_)
    · skip
      exact absurd ((nI_leI (by omega) (by omega)).mp hc37) (by omega)
    · skip
      have hc37 : ¬ sz ≤ i := fun z9 => hc37 ((nI_leI (by omega) (by omega)).mpr z9)
      refine pr_aload_n tX6_isDone_40 1 rfl ?_
      refine pr_geta (j := 150) tX6_isDone_41 rfl rfl rfl rfl ?_
      refine pr_iload_n tX6_isDone_44 0 rfl ?_
      refine pr_ial tX6_isDone_45 i rfl rfl (by omega) (by decide) ?_
      refine pR_topi (y := (nI (tk i))) ((hT i (by omega)).1) ?_
      refine pr_if_eq (pc' := 51) tX6_isDone_46 rfl (fun hc46 => ?_) (fun hc46 => ?_)
      · skip
        skip
        refine pr_iinc (v := (nI (i + 1))) (L' := [(1, .inl (nI (i + 1))), (0, .inr (.inr 8))]) tX6_isDone_51 0 rfl (nI_1 _) (by decide) rfl ?_
        refine pr_goto (pc' := 32) tX6_isDone_54 rfl ?_
        refine pR_sub (L' := [(1, .inl (nI (i + 1))), (0, .inr (.inr 8))]) [0, 1] rfl ?_
        exact ih (i + 1) (by omega) (fun w h1 h2 => ha w (by omega) h2)
      · skip
        exact absurd (by rw [ha i (Nat.le_refl _) (by omega), nI_0]) hc46

set_option maxRecDepth 100000 in
theorem lp_X6_isDone_f (σ : pST) {sz : Nat} {tk : Nat → Nat} (hz : σ.1 8 7 = nI sz) (hz1 : sz ≤ 4) (hT : ∀ w, w < sz → σ.1 150 w = nI (tk w) ∧ tk w ≤ 2) : ∀ (m i : Nat), i + m = sz → (∃ w, i ≤ w ∧ w < sz ∧ ¬ tk w = 0) → pR shX tX6_isDone fX6_isDone qX6_isDone lX6_isDone 2 2 (fun x => x = (σ, some (.inl (nI 0)))) 32 [(1, .inl (nI i)), (0, .inr (.inr 8))] [] σ := by
  intro m
  induction m with
  | zero =>
    intro i hi ha
    obtain ⟨w, h1, h2, _⟩ := ha
    omega
  | succ m ih =>
    intro i hi ha
    refine pr_iload_n tX6_isDone_32 0 rfl ?_
    refine pr_aload_n tX6_isDone_33 1 rfl ?_
    refine pr_get0 tX6_isDone_34 rfl rfl rfl ?_
    refine pR_topi (y := (nI sz)) (by simp [pm_ui, pm_uj, upd, vp_updL, hz]) ?_
    refine pr_ic_ge (pc' := 57) tX6_isDone_37 rfl (fun hc37 => ?_) (fun hc37 => ?_)
    · skip
      exact absurd ((nI_leI (by omega) (by omega)).mp hc37) (by omega)
    · skip
      have hc37 : ¬ sz ≤ i := fun z9 => hc37 ((nI_leI (by omega) (by omega)).mpr z9)
      refine pr_aload_n tX6_isDone_40 1 rfl ?_
      refine pr_geta (j := 150) tX6_isDone_41 rfl rfl rfl rfl ?_
      refine pr_iload_n tX6_isDone_44 0 rfl ?_
      refine pr_ial tX6_isDone_45 i rfl rfl (by omega) (by decide) ?_
      refine pR_topi (y := (nI (tk i))) ((hT i (by omega)).1) ?_
      refine pr_if_eq (pc' := 51) tX6_isDone_46 rfl (fun hc46 => ?_) (fun hc46 => ?_)
      · skip
        have hc46 : tk i = 0 := (nI_eq (by have := (hT i (by omega)).2; omega) (by omega)).mp (by rw [nI_0]; exact hc46)
        refine pr_iinc (v := (nI (i + 1))) (L' := [(1, .inl (nI (i + 1))), (0, .inr (.inr 8))]) tX6_isDone_51 0 rfl (nI_1 _) (by decide) rfl ?_
        refine pr_goto (pc' := 32) tX6_isDone_54 rfl ?_
        refine pR_sub (L' := [(1, .inl (nI (i + 1))), (0, .inr (.inr 8))]) [0, 1] rfl ?_
        exact ih (i + 1) (by omega) (by obtain ⟨w, h1, h2, h3⟩ := ha; exact ⟨w, by have : w ≠ i := fun z => h3 (z ▸ hc46); omega, h2, h3⟩)
      · skip
        skip
        refine pr_iconst (v := nI 0) tX6_isDone_49 rfl ?_
        refine pr_zret tX6_isDone_50 rfl (by decide) ?_
        rfl

set_option maxRecDepth 100000 in
theorem ev_X6_isDone_t (σ : pST) {sz : Nat} {tk : Nat → Nat} (hz : σ.1 8 7 = nI sz) (hz1 : sz ≤ 4) (hT : ∀ w, w < sz → σ.1 150 w = nI (tk w) ∧ tk w ≤ 2) {rr lr n : Nat} (hrr : σ.1 8 9 = nI rr) (hr1 : rr ≤ 16) (hlr : σ.1 8 10 = nI lr) (hl1 : lr ≤ 16) (hn : σ.1 9 2 = nI n) (hn1 : n ≤ 16) (h1 : n ≤ rr) (h2 : n ≤ lr) (h3 : ∀ w, w < sz → tk w = 0) : kX6_isDone σ [.inr (.inr 8)] = some ((σ, some (.inl (nI 1)))) := by
  have key : ∃ x, kX6_isDone σ [.inr (.inr 8)] = some x ∧ x = (σ, some (.inl (nI 1))) := by
    refine pR_met (post := fun x => x = (σ, some (.inl (nI 1)))) rfl (Nat.le_of_ble_eq_true rfl) ?_
    show pR _ _ _ _ _ _ _ _ 0 [(0, .inr (.inr 8))] [] σ
    refine pr_aload_n tX6_isDone_0 0 rfl ?_
    refine pr_get0 tX6_isDone_1 rfl rfl rfl ?_
    refine pR_topi (y := (nI rr)) (by simp [pm_ui, pm_uj, upd, vp_updL, hrr]) ?_
    refine pr_aload_n tX6_isDone_4 0 rfl ?_
    refine pr_geta (j := 9) tX6_isDone_5 rfl rfl rfl rfl ?_
    refine pr_get0 tX6_isDone_8 rfl rfl rfl ?_
    refine pR_topi (y := (nI n)) (by simp [pm_ui, pm_uj, upd, vp_updL, hn]) ?_
    refine pr_ic_lt (pc' := 28) tX6_isDone_11 rfl (fun hc11 => ?_) (fun hc11 => ?_)
    · skip
      exact absurd ((nI_ltI (by omega) (by omega)).mp hc11) (by omega)
    · skip
      have hc11 : ¬ rr < n := fun z9 => hc11 ((nI_ltI (by omega) (by omega)).mpr z9)
      refine pr_aload_n tX6_isDone_14 0 rfl ?_
      refine pr_get0 tX6_isDone_15 rfl rfl rfl ?_
      refine pR_topi (y := (nI lr)) (by simp [pm_ui, pm_uj, upd, vp_updL, hlr]) ?_
      refine pr_aload_n tX6_isDone_18 0 rfl ?_
      refine pr_geta (j := 9) tX6_isDone_19 rfl rfl rfl rfl ?_
      refine pr_get0 tX6_isDone_22 rfl rfl rfl ?_
      refine pR_topi (y := (nI n)) (by simp [pm_ui, pm_uj, upd, vp_updL, hn]) ?_
      refine pr_ic_ge (pc' := 30) tX6_isDone_25 rfl (fun hc25 => ?_) (fun hc25 => ?_)
      · skip
        have hc25 : n ≤ lr := (nI_leI (by omega) (by omega)).mp hc25
        refine pr_iconst (v := nI 0) tX6_isDone_30 rfl ?_
        refine pr_istore_n (L' := [(1, .inl (nI 0)), (0, .inr (.inr 8))]) tX6_isDone_31 (by decide) rfl ?_
        refine pR_sub (L' := [(1, .inl (nI 0)), (0, .inr (.inr 8))]) [0, 1] rfl ?_
        exact lp_X6_isDone_t σ hz hz1 hT sz 0 (by omega) (fun w _ hw => h3 w hw)
      · skip
        exact absurd ((nI_leI (by omega) (by omega)).mpr h2) hc25
  obtain ⟨x, h1, h2⟩ := key
  rw [h1, h2]

set_option maxRecDepth 100000 in
theorem ev_X6_isDone_f (σ : pST) {sz : Nat} {tk : Nat → Nat} (hz : σ.1 8 7 = nI sz) (hz1 : sz ≤ 4) (hT : ∀ w, w < sz → σ.1 150 w = nI (tk w) ∧ tk w ≤ 2) {rr lr n : Nat} (hrr : σ.1 8 9 = nI rr) (hr1 : rr ≤ 16) (hlr : σ.1 8 10 = nI lr) (hl1 : lr ≤ 16) (hn : σ.1 9 2 = nI n) (hn1 : n ≤ 16) (h : ¬ (n ≤ rr ∧ n ≤ lr ∧ ∀ w, w < sz → tk w = 0)) : kX6_isDone σ [.inr (.inr 8)] = some ((σ, some (.inl (nI 0)))) := by
  have key : ∃ x, kX6_isDone σ [.inr (.inr 8)] = some x ∧ x = (σ, some (.inl (nI 0))) := by
    refine pR_met (post := fun x => x = (σ, some (.inl (nI 0)))) rfl (Nat.le_of_ble_eq_true rfl) ?_
    show pR _ _ _ _ _ _ _ _ 0 [(0, .inr (.inr 8))] [] σ
    refine pr_aload_n tX6_isDone_0 0 rfl ?_
    refine pr_get0 tX6_isDone_1 rfl rfl rfl ?_
    refine pR_topi (y := (nI rr)) (by simp [pm_ui, pm_uj, upd, vp_updL, hrr]) ?_
    refine pr_aload_n tX6_isDone_4 0 rfl ?_
    refine pr_geta (j := 9) tX6_isDone_5 rfl rfl rfl rfl ?_
    refine pr_get0 tX6_isDone_8 rfl rfl rfl ?_
    refine pR_topi (y := (nI n)) (by simp [pm_ui, pm_uj, upd, vp_updL, hn]) ?_
    refine pr_ic_lt (pc' := 28) tX6_isDone_11 rfl (fun hc11 => ?_) (fun hc11 => ?_)
    · skip
      have hc11 : rr < n := (nI_ltI (by omega) (by omega)).mp hc11
      refine pr_iconst (v := nI 0) tX6_isDone_28 rfl ?_
      refine pr_zret tX6_isDone_29 rfl (by decide) ?_
      rfl
    · skip
      have hc11 : ¬ rr < n := fun z9 => hc11 ((nI_ltI (by omega) (by omega)).mpr z9)
      refine pr_aload_n tX6_isDone_14 0 rfl ?_
      refine pr_get0 tX6_isDone_15 rfl rfl rfl ?_
      refine pR_topi (y := (nI lr)) (by simp [pm_ui, pm_uj, upd, vp_updL, hlr]) ?_
      refine pr_aload_n tX6_isDone_18 0 rfl ?_
      refine pr_geta (j := 9) tX6_isDone_19 rfl rfl rfl rfl ?_
      refine pr_get0 tX6_isDone_22 rfl rfl rfl ?_
      refine pR_topi (y := (nI n)) (by simp [pm_ui, pm_uj, upd, vp_updL, hn]) ?_
      refine pr_ic_ge (pc' := 30) tX6_isDone_25 rfl (fun hc25 => ?_) (fun hc25 => ?_)
      · skip
        have hc25 : n ≤ lr := (nI_leI (by omega) (by omega)).mp hc25
        refine pr_iconst (v := nI 0) tX6_isDone_30 rfl ?_
        refine pr_istore_n (L' := [(1, .inl (nI 0)), (0, .inr (.inr 8))]) tX6_isDone_31 (by decide) rfl ?_
        refine pR_sub (L' := [(1, .inl (nI 0)), (0, .inr (.inr 8))]) [0, 1] rfl ?_
        exact lp_X6_isDone_f σ hz hz1 hT sz 0 (by omega) (by apply Classical.byContradiction; intro q; exact h ⟨by omega, by omega, fun w hw => Classical.byContradiction fun z => q ⟨w, Nat.zero_le _, hw, z⟩⟩)
      · skip
        have hc25 : ¬ n ≤ lr := fun z9 => hc25 ((nI_leI (by omega) (by omega)).mpr z9)
        refine pr_iconst (v := nI 0) tX6_isDone_28 rfl ?_
        refine pr_zret tX6_isDone_29 rfl (by decide) ?_
        rfl
  obtain ⟨x, h1, h2⟩ := key
  rw [h1, h2]
