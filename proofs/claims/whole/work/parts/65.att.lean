set_option maxRecDepth 100000 in
theorem ev_X0_open (σ : pST) {a : Nat} (ha : isA a) : kX0_open σ [.inr (.inr a)] = some (((pm_ui (pm_ui (σ.1) a 1 0) a 2 0, σ.2), none)) := by
  have key : ∃ x, kX0_open σ [.inr (.inr a)] = some x ∧ x = ((pm_ui (pm_ui (σ.1) a 1 0) a 2 0, σ.2), none) := by
    refine pR_met (post := fun x => x = ((pm_ui (pm_ui (σ.1) a 1 0) a 2 0, σ.2), none)) ha.1 (Nat.le_of_ble_eq_true rfl) ?_
    show pR _ _ _ _ _ _ _ _ 0 [(0, .inr (.inr a))] [] σ
    refine pr_aload_n tX0_open_0 0 rfl ?_
    refine pr_iconst (v := nI 0) tX0_open_1 rfl ?_
    refine pr_put0 tX0_open_2 rfl ha.1 rfl ?_
    obtain ⟨σ1, eσ1⟩ : ∃ z : pST, z = (pm_ui σ.1 a 1 (nI 0), σ.2) := ⟨_, rfl⟩
    rw [← eσ1]
    refine pr_aload_n tX0_open_5 0 rfl ?_
    refine pr_iconst (v := nI 0) tX0_open_6 rfl ?_
    refine pr_put0 tX0_open_7 rfl ha.1 rfl ?_
    obtain ⟨σ2, eσ2⟩ : ∃ z : pST, z = (pm_ui σ1.1 a 2 (nI 0), σ1.2) := ⟨_, rfl⟩
    rw [← eσ2]
    refine pr_ret tX0_open_10 rfl ?_
    rw [eσ2, eσ1]
    try rfl
  obtain ⟨x, h1, h2⟩ := key
  rw [h1, h2]

def begX (σ : pST) (a : Nat) : pST := (pm_ui (pm_ui (pm_ui (pm_ui (pm_ui (pm_ui (pm_ui (pm_ui (σ.1) a 1 (σ.1 a 1 + 1)) a 10 0) a 3 0) a 4 0) a 5 0) a 11 0) a 12 0) a 6 0, filJ σ.2 (a + 3) 4 0)
set_option maxRecDepth 100000 in
theorem ev_X0_begin (σ : pST) {a : Nat} (ha : isA a) : kX0_begin σ [.inr (.inr a)] = some ((begX σ a, none)) := by
  have key : ∃ x, kX0_begin σ [.inr (.inr a)] = some x ∧ x = (begX σ a, none) := by
    refine pR_met (post := fun x => x = (begX σ a, none)) ha.1 (Nat.le_of_ble_eq_true rfl) ?_
    show pR _ _ _ _ _ _ _ _ 0 [(0, .inr (.inr a))] [] σ
    refine pr_aload_n tX0_begin_0 0 rfl ?_
    refine pr_dup tX0_begin_1 rfl ?_
    refine pr_get0 tX0_begin_2 rfl ha.1 rfl ?_
    refine pr_iconst (v := nI 1) tX0_begin_5 rfl ?_
    refine pr_iadd (v := ((σ.1 a 1) + (nI 1))) tX0_begin_6 (rfl) ?_
    refine pr_put0 tX0_begin_7 rfl ha.1 rfl ?_
    obtain ⟨σ1, eσ1⟩ : ∃ z : pST, z = (pm_ui σ.1 a 1 ((σ.1 a 1) + (nI 1)), σ.2) := ⟨_, rfl⟩
    rw [← eσ1]
    refine pr_aload_n tX0_begin_10 0 rfl ?_
    refine pr_iconst (v := nI 0) tX0_begin_11 rfl ?_
    refine pr_put0 tX0_begin_12 rfl ha.1 rfl ?_
    obtain ⟨σ2, eσ2⟩ : ∃ z : pST, z = (pm_ui σ1.1 a 10 (nI 0), σ1.2) := ⟨_, rfl⟩
    rw [← eσ2]
    refine pr_aload_n tX0_begin_15 0 rfl ?_
    refine pr_iconst (v := nI 0) tX0_begin_16 rfl ?_
    refine pr_put0 tX0_begin_17 rfl ha.1 rfl ?_
    obtain ⟨σ3, eσ3⟩ : ∃ z : pST, z = (pm_ui σ2.1 a 3 (nI 0), σ2.2) := ⟨_, rfl⟩
    rw [← eσ3]
    refine pr_aload_n tX0_begin_20 0 rfl ?_
    refine pr_iconst (v := nI 0) tX0_begin_21 rfl ?_
    refine pr_put1 tX0_begin_22 rfl ha.1 rfl (by decide) ?_
    obtain ⟨σ4, eσ4⟩ : ∃ z : pST, z = (pm_ui σ3.1 a 4 (nI 0), σ3.2) := ⟨_, rfl⟩
    rw [← eσ4]
    refine pr_aload_n tX0_begin_25 0 rfl ?_
    refine pr_iconst (v := nI 0) tX0_begin_26 rfl ?_
    refine pr_put0 tX0_begin_27 rfl ha.1 rfl ?_
    obtain ⟨σ5, eσ5⟩ : ∃ z : pST, z = (pm_ui σ4.1 a 5 (nI 0), σ4.2) := ⟨_, rfl⟩
    rw [← eσ5]
    refine pr_aload_n tX0_begin_30 0 rfl ?_
    refine pr_iconst (v := nI 0) tX0_begin_31 rfl ?_
    refine pr_put0 tX0_begin_32 rfl ha.1 rfl ?_
    obtain ⟨σ6, eσ6⟩ : ∃ z : pST, z = (pm_ui σ5.1 a 11 (nI 0), σ5.2) := ⟨_, rfl⟩
    rw [← eσ6]
    refine pr_aload_n tX0_begin_35 0 rfl ?_
    refine pr_iconst (v := nI 0) tX0_begin_36 rfl ?_
    refine pr_put0 tX0_begin_37 rfl ha.1 rfl ?_
    obtain ⟨σ7, eσ7⟩ : ∃ z : pST, z = (pm_ui σ6.1 a 12 (nI 0), σ6.2) := ⟨_, rfl⟩
    rw [← eσ7]
    refine pr_aload_n tX0_begin_40 0 rfl ?_
    refine pr_iconst (v := nI 0) tX0_begin_41 rfl ?_
    refine pr_put0 tX0_begin_42 rfl ha.1 rfl ?_
    obtain ⟨σ8, eσ8⟩ : ∃ z : pST, z = (pm_ui σ7.1 a 6 (nI 0), σ7.2) := ⟨_, rfl⟩
    rw [← eσ8]
    refine pr_aload_n tX0_begin_45 0 rfl ?_
    refine pr_geta (j := a + 3) tX0_begin_46 rfl ha.1 rfl rfl ?_
    refine pr_lconst (v := 0) tX0_begin_49 rfl ?_
    refine pr_callS tX0_begin_50 rfl ⟨Nat.le_of_ble_eq_true rfl, Nat.le_of_ble_eq_true rfl, rfl⟩ (ev_J7_fill_d0a16 σ8 ha.2.2.2.1 (by decide) 0) ?_
    refine pR_eq (st' := []) rfl rfl ?_
    refine pr_ret tX0_begin_53 rfl ?_
    show _ = (begX σ a, none)
    unfold begX
    rw [eσ8, eσ7, eσ6, eσ5, eσ4, eσ3, eσ2, eσ1]
    rfl
  obtain ⟨x, h1, h2⟩ := key
  rw [h1, h2]

set_option maxRecDepth 100000 in
theorem ev_X0_hasWritten (σ : pST) {a : Nat} (ha : isA a) (k : Int32) : kX0_hasWritten σ [.inr (.inr a), .inl k] = some ((σ, some (.inl (if σ.1 a 12 &&& (nI 1 <<< (k &&& 31)) = 0 then 0 else 1)))) := by
  have key : ∃ x, kX0_hasWritten σ [.inr (.inr a), .inl k] = some x ∧ x = (σ, some (.inl (if σ.1 a 12 &&& (nI 1 <<< (k &&& 31)) = 0 then 0 else 1))) := by
    refine pR_met (post := fun x => x = (σ, some (.inl (if σ.1 a 12 &&& (nI 1 <<< (k &&& 31)) = 0 then 0 else 1)))) ha.1 (Nat.le_of_ble_eq_true rfl) ?_
    show pR _ _ _ _ _ _ _ _ 0 [(0, .inr (.inr a)), (1, .inl k)] [] σ
    refine pr_aload_n tX0_hasWritten_0 0 rfl ?_
    refine pr_get0 tX0_hasWritten_1 rfl ha.1 rfl ?_
    refine pr_iconst (v := nI 1) tX0_hasWritten_4 rfl ?_
    refine pr_iload_n tX0_hasWritten_5 1 rfl ?_
    refine pr_ishl (v := ((nI 1) <<< (k &&& 31))) tX0_hasWritten_6 (rfl) ?_
    refine pr_iand (v := ((σ.1 a 12) &&& ((nI 1) <<< (k &&& 31)))) tX0_hasWritten_7 (rfl) ?_
    refine pr_if_eq (pc' := 15) tX0_hasWritten_8 rfl (fun hc8 => ?_) (fun hc8 => ?_)
    · skip
      refine pr_iconst (v := nI 0) tX0_hasWritten_15 rfl ?_
      refine pr_zret tX0_hasWritten_16 rfl (by decide) ?_
      first | (rw [if_pos (by grind)]; rfl) | (rw [if_neg (by grind)]; rfl)
    · skip
      refine pr_iconst (v := nI 1) tX0_hasWritten_11 rfl ?_
      refine pr_goto (pc' := 16) tX0_hasWritten_12 rfl ?_
      refine pr_zret tX0_hasWritten_16 rfl (by decide) ?_
      first | (rw [if_pos (by grind)]; rfl) | (rw [if_neg (by grind)]; rfl)
  obtain ⟨x, h1, h2⟩ := key
  rw [h1, h2]

set_option maxRecDepth 100000 in
theorem ev_X0_touched (σ : pST) {a : Nat} (ha : isA a) (k : Int32) : kX0_touched σ [.inr (.inr a), .inl k] = some ((σ, some (.inl (if (σ.1 a 11 ||| σ.1 a 12) &&& (nI 1 <<< (k &&& 31)) = 0 then 0 else 1)))) := by
  have key : ∃ x, kX0_touched σ [.inr (.inr a), .inl k] = some x ∧ x = (σ, some (.inl (if (σ.1 a 11 ||| σ.1 a 12) &&& (nI 1 <<< (k &&& 31)) = 0 then 0 else 1))) := by
    refine pR_met (post := fun x => x = (σ, some (.inl (if (σ.1 a 11 ||| σ.1 a 12) &&& (nI 1 <<< (k &&& 31)) = 0 then 0 else 1)))) ha.1 (Nat.le_of_ble_eq_true rfl) ?_
    show pR _ _ _ _ _ _ _ _ 0 [(0, .inr (.inr a)), (1, .inl k)] [] σ
    refine pr_aload_n tX0_touched_0 0 rfl ?_
    refine pr_get0 tX0_touched_1 rfl ha.1 rfl ?_
    refine pr_aload_n tX0_touched_4 0 rfl ?_
    refine pr_get0 tX0_touched_5 rfl ha.1 rfl ?_
    refine pr_ior (v := ((σ.1 a 11) ||| (σ.1 a 12))) tX0_touched_8 (rfl) ?_
    refine pr_iconst (v := nI 1) tX0_touched_9 rfl ?_
    refine pr_iload_n tX0_touched_10 1 rfl ?_
    refine pr_ishl (v := ((nI 1) <<< (k &&& 31))) tX0_touched_11 (rfl) ?_
    refine pr_iand (v := (((σ.1 a 11) ||| (σ.1 a 12)) &&& ((nI 1) <<< (k &&& 31)))) tX0_touched_12 (rfl) ?_
    refine pr_if_eq (pc' := 20) tX0_touched_13 rfl (fun hc13 => ?_) (fun hc13 => ?_)
    · skip
      refine pr_iconst (v := nI 0) tX0_touched_20 rfl ?_
      refine pr_zret tX0_touched_21 rfl (by decide) ?_
      first | (rw [if_pos (by grind)]; rfl) | (rw [if_neg (by grind)]; rfl)
    · skip
      refine pr_iconst (v := nI 1) tX0_touched_16 rfl ?_
      refine pr_goto (pc' := 21) tX0_touched_17 rfl ?_
      refine pr_zret tX0_touched_21 rfl (by decide) ?_
      first | (rw [if_pos (by grind)]; rfl) | (rw [if_neg (by grind)]; rfl)
  obtain ⟨x, h1, h2⟩ := key
  rw [h1, h2]

set_option maxRecDepth 100000 in
theorem ev_X0_leafAt (σ : pST) {a : Nat} (ha : isA a) {j : Nat} (hj : j < 4) (v : Int64) : kX0_leafAt σ [.inr (.inr a), .inl (nI j), .inr (.inl v)] = some ((σ, some (.inl ((v + σ.2 (a + 3) j) &&& 31).toInt32))) := by
  have key : ∃ x, kX0_leafAt σ [.inr (.inr a), .inl (nI j), .inr (.inl v)] = some x ∧ x = (σ, some (.inl ((v + σ.2 (a + 3) j) &&& 31).toInt32)) := by
    refine pR_met (post := fun x => x = (σ, some (.inl ((v + σ.2 (a + 3) j) &&& 31).toInt32))) ha.1 (Nat.le_of_ble_eq_true rfl) ?_
    show pR _ _ _ _ _ _ _ _ 0 [(0, .inr (.inr a)), (1, .inl (nI j)), (2, .inr (.inl v))] [] σ
    refine pr_lload_n tX0_leafAt_0 2 rfl ?_
    refine pr_aload_n tX0_leafAt_1 0 rfl ?_
    refine pr_geta (j := a + 3) tX0_leafAt_2 rfl ha.1 rfl rfl ?_
    refine pr_iload_n tX0_leafAt_5 1 rfl ?_
    refine pr_lal tX0_leafAt_6 j ha.2.2.2.1 rfl (by omega) (by decide) ?_
    refine pr_ladd (v := (v + (σ.2 (a + 3) j))) tX0_leafAt_7 (rfl) ?_
    refine pr_ldc2 tX0_leafAt_8 rfl ?_
    refine pr_land (v := ((v + (σ.2 (a + 3) j)) &&& (31))) tX0_leafAt_11 (rfl) ?_
    refine pr_l2i (v := (((v + σ.2 (a + 3) j) &&& 31).toInt32)) tX0_leafAt_12 (rfl) ?_
    refine pr_iret tX0_leafAt_13 rfl ?_
    rfl
  obtain ⟨x, h1, h2⟩ := key
  rw [h1, h2]

set_option maxRecDepth 100000 in
theorem ev_X0_keep (σ : pST) {a : Nat} (ha : isA a) {k kp : Nat} (hk : k < 32) (hkp : σ.1 a 5 = nI kp) (hl : kp < 12) (w num : Int32) (v : Int64) : kX0_keep σ [.inr (.inr a), .inl (nI k), .inl w, .inl num, .inr (.inl v)] = some (((pm_ui (pm_ui (pm_ui (pm_ui (pm_ui (σ.1) (a + 5) kp (nI k)) (a + 6) kp w) (a + 7) kp num) a 11 (σ.1 a 11 ||| (nI 1 <<< (nI k &&& 31)))) a 5 (nI (kp + 1)), pm_uj (σ.2) (a + 4) k v), none)) := by
  have key : ∃ x, kX0_keep σ [.inr (.inr a), .inl (nI k), .inl w, .inl num, .inr (.inl v)] = some x ∧ x = ((pm_ui (pm_ui (pm_ui (pm_ui (pm_ui (σ.1) (a + 5) kp (nI k)) (a + 6) kp w) (a + 7) kp num) a 11 (σ.1 a 11 ||| (nI 1 <<< (nI k &&& 31)))) a 5 (nI (kp + 1)), pm_uj (σ.2) (a + 4) k v), none) := by
    refine pR_met (post := fun x => x = ((pm_ui (pm_ui (pm_ui (pm_ui (pm_ui (σ.1) (a + 5) kp (nI k)) (a + 6) kp w) (a + 7) kp num) a 11 (σ.1 a 11 ||| (nI 1 <<< (nI k &&& 31)))) a 5 (nI (kp + 1)), pm_uj (σ.2) (a + 4) k v), none)) ha.1 (Nat.le_of_ble_eq_true rfl) ?_
    show pR _ _ _ _ _ _ _ _ 0 [(0, .inr (.inr a)), (1, .inl (nI k)), (2, .inl w), (3, .inl num), (4, .inr (.inl v))] [] σ
    refine pr_aload_n tX0_keep_0 0 rfl ?_
    refine pr_get0 tX0_keep_1 rfl ha.1 rfl ?_
    refine pR_topi (y := (nI kp)) (by simp [pm_ui, pm_uj, upd, vp_updL, hkp]) ?_
    refine pr_bipush (v := nI 12) tX0_keep_4 rfl ?_
    refine pr_ic_lt (pc' := 10) tX0_keep_6 rfl (fun hc6 => ?_) (fun hc6 => ?_)
    · skip
      have hc6 : kp < 12 := (nI_ltI (by omega) (by omega)).mp hc6
      refine pr_aload_n tX0_keep_10 0 rfl ?_
      refine pr_geta (j := a + 5) tX0_keep_11 rfl ha.1 rfl rfl ?_
      refine pr_aload_n tX0_keep_14 0 rfl ?_
      refine pr_get0 tX0_keep_15 rfl ha.1 rfl ?_
      refine pR_topi (y := (nI kp)) (by simp [pm_ui, pm_uj, upd, vp_updL, hkp]) ?_
      refine pr_iload_n tX0_keep_18 1 rfl ?_
      refine pr_ias tX0_keep_19 kp ha.2.2.2.2.2.1 rfl (by omega) (by decide) ?_
      obtain ⟨σ1, eσ1⟩ : ∃ z : pST, z = (pm_ui σ.1 (a + 5) kp (nI k), σ.2) := ⟨_, rfl⟩
      rw [← eσ1]
      refine pr_aload_n tX0_keep_20 0 rfl ?_
      refine pr_geta (j := a + 6) tX0_keep_21 rfl ha.1 rfl rfl ?_
      refine pr_aload_n tX0_keep_24 0 rfl ?_
      refine pr_get0 tX0_keep_25 rfl ha.1 rfl ?_
      refine pR_topi (y := (nI kp)) (by simp [eσ1, pm_ui, pm_uj, upd, vp_updL, hkp]) ?_
      refine pr_iload_n tX0_keep_28 2 rfl ?_
      refine pr_ias tX0_keep_29 kp ha.2.2.2.2.2.2.1 rfl (by omega) (by decide) ?_
      obtain ⟨σ2, eσ2⟩ : ∃ z : pST, z = (pm_ui σ1.1 (a + 6) kp w, σ1.2) := ⟨_, rfl⟩
      rw [← eσ2]
      refine pr_aload_n tX0_keep_30 0 rfl ?_
      refine pr_geta (j := a + 7) tX0_keep_31 rfl ha.1 rfl rfl ?_
      refine pr_aload_n tX0_keep_34 0 rfl ?_
      refine pr_get0 tX0_keep_35 rfl ha.1 rfl ?_
      refine pR_topi (y := (nI kp)) (by simp [eσ1, eσ2, pm_ui, pm_uj, upd, vp_updL, hkp]) ?_
      refine pr_iload_n tX0_keep_38 3 rfl ?_
      refine pr_ias tX0_keep_39 kp ha.2.2.2.2.2.2.2 rfl (by omega) (by decide) ?_
      obtain ⟨σ3, eσ3⟩ : ∃ z : pST, z = (pm_ui σ2.1 (a + 7) kp num, σ2.2) := ⟨_, rfl⟩
      rw [← eσ3]
      refine pr_aload_n tX0_keep_40 0 rfl ?_
      refine pr_geta (j := a + 4) tX0_keep_41 rfl ha.1 rfl rfl ?_
      refine pr_iload_n tX0_keep_44 1 rfl ?_
      refine pr_lload tX0_keep_45 4 rfl ?_
      refine pr_las tX0_keep_47 k ha.2.2.2.2.1 rfl (by omega) (by decide) ?_
      obtain ⟨σ4, eσ4⟩ : ∃ z : pST, z = (σ3.1, pm_uj σ3.2 (a + 4) k v) := ⟨_, rfl⟩
      rw [← eσ4]
      refine pr_aload_n tX0_keep_48 0 rfl ?_
      refine pr_dup tX0_keep_49 rfl ?_
      refine pr_get0 tX0_keep_50 rfl ha.1 rfl ?_
      refine pR_topi (y := (σ.1 a 11)) (by simp [eσ1, eσ2, eσ3, eσ4, pm_ui, pm_uj, upd, vp_updL]) ?_
      refine pr_iconst (v := nI 1) tX0_keep_53 rfl ?_
      refine pr_iload_n tX0_keep_54 1 rfl ?_
      refine pr_ishl (v := ((nI 1) <<< ((nI k) &&& 31))) tX0_keep_55 (rfl) ?_
      refine pr_ior (v := ((σ.1 a 11) ||| ((nI 1) <<< ((nI k) &&& 31)))) tX0_keep_56 (rfl) ?_
      refine pr_put0 tX0_keep_57 rfl ha.1 rfl ?_
      obtain ⟨σ5, eσ5⟩ : ∃ z : pST, z = (pm_ui σ4.1 a 11 ((σ.1 a 11) ||| ((nI 1) <<< ((nI k) &&& 31))), σ4.2) := ⟨_, rfl⟩
      rw [← eσ5]
      refine pr_aload_n tX0_keep_60 0 rfl ?_
      refine pr_dup tX0_keep_61 rfl ?_
      refine pr_get0 tX0_keep_62 rfl ha.1 rfl ?_
      refine pR_topi (y := (nI kp)) (by simp [eσ1, eσ2, eσ3, eσ4, eσ5, pm_ui, pm_uj, upd, vp_updL, hkp]) ?_
      refine pr_iconst (v := nI 1) tX0_keep_65 rfl ?_
      refine pr_iadd (v := (nI (kp + 1))) tX0_keep_66 (nI_add _ _) ?_
      refine pr_put0 tX0_keep_67 rfl ha.1 rfl ?_
      obtain ⟨σ6, eσ6⟩ : ∃ z : pST, z = (pm_ui σ5.1 a 5 (nI (kp + 1)), σ5.2) := ⟨_, rfl⟩
      rw [← eσ6]
      refine pr_ret tX0_keep_70 rfl ?_
      rw [eσ6, eσ5, eσ4, eσ3, eσ2, eσ1]
      try rfl
    · skip
      exact absurd ((nI_ltI (by omega) (by omega)).mpr hl) hc6
  obtain ⟨x, h1, h2⟩ := key
  rw [h1, h2]

set_option maxRecDepth 100000 in
theorem ev_X0_write (σ : pST) {a : Nat} (ha : isA a) {k : Nat} (hk : k < 32) (v : Int64) : kX0_write σ [.inr (.inr a), .inl (nI k), .inr (.inl v)] = some (((pm_ui (σ.1) a 12 (σ.1 a 12 ||| (nI 1 <<< (nI k &&& 31))), pm_uj (σ.2) (a + 1) k v), none)) := by
  have key : ∃ x, kX0_write σ [.inr (.inr a), .inl (nI k), .inr (.inl v)] = some x ∧ x = ((pm_ui (σ.1) a 12 (σ.1 a 12 ||| (nI 1 <<< (nI k &&& 31))), pm_uj (σ.2) (a + 1) k v), none) := by
    refine pR_met (post := fun x => x = ((pm_ui (σ.1) a 12 (σ.1 a 12 ||| (nI 1 <<< (nI k &&& 31))), pm_uj (σ.2) (a + 1) k v), none)) ha.1 (Nat.le_of_ble_eq_true rfl) ?_
    show pR _ _ _ _ _ _ _ _ 0 [(0, .inr (.inr a)), (1, .inl (nI k)), (2, .inr (.inl v))] [] σ
    refine pr_aload_n tX0_write_0 0 rfl ?_
    refine pr_geta (j := a + 1) tX0_write_1 rfl ha.1 rfl rfl ?_
    refine pr_iload_n tX0_write_4 1 rfl ?_
    refine pr_lload_n tX0_write_5 2 rfl ?_
    refine pr_las tX0_write_6 k ha.2.1 rfl (by omega) (by decide) ?_
    obtain ⟨σ1, eσ1⟩ : ∃ z : pST, z = (σ.1, pm_uj σ.2 (a + 1) k v) := ⟨_, rfl⟩
    rw [← eσ1]
    refine pr_aload_n tX0_write_7 0 rfl ?_
    refine pr_dup tX0_write_8 rfl ?_
    refine pr_get0 tX0_write_9 rfl ha.1 rfl ?_
    refine pR_topi (y := (σ.1 a 12)) (by simp [eσ1, pm_ui, pm_uj, upd, vp_updL]) ?_
    refine pr_iconst (v := nI 1) tX0_write_12 rfl ?_
    refine pr_iload_n tX0_write_13 1 rfl ?_
    refine pr_ishl (v := ((nI 1) <<< ((nI k) &&& 31))) tX0_write_14 (rfl) ?_
    refine pr_ior (v := ((σ.1 a 12) ||| ((nI 1) <<< ((nI k) &&& 31)))) tX0_write_15 (rfl) ?_
    refine pr_put0 tX0_write_16 rfl ha.1 rfl ?_
    obtain ⟨σ2, eσ2⟩ : ∃ z : pST, z = (pm_ui σ1.1 a 12 ((σ.1 a 12) ||| ((nI 1) <<< ((nI k) &&& 31))), σ1.2) := ⟨_, rfl⟩
    rw [← eσ2]
    refine pr_ret tX0_write_19 rfl ?_
    rw [eσ2, eσ1]
    try rfl
  obtain ⟨x, h1, h2⟩ := key
  rw [h1, h2]

set_option maxRecDepth 100000 in
theorem ev_X0_raise (σ : pST) {a : Nat} (ha : isA a) {ec : Nat} (he : σ.1 a 6 = nI ec) (hl : ec < 12) (v : Int64) : kX0_raise σ [.inr (.inr a), .inr (.inl v)] = some (((pm_ui (σ.1) a 6 (nI (ec + 1)), pm_uj (σ.2) (a + 2) ec v), none)) := by
  have key : ∃ x, kX0_raise σ [.inr (.inr a), .inr (.inl v)] = some x ∧ x = ((pm_ui (σ.1) a 6 (nI (ec + 1)), pm_uj (σ.2) (a + 2) ec v), none) := by
    refine pR_met (post := fun x => x = ((pm_ui (σ.1) a 6 (nI (ec + 1)), pm_uj (σ.2) (a + 2) ec v), none)) ha.1 (Nat.le_of_ble_eq_true rfl) ?_
    show pR _ _ _ _ _ _ _ _ 0 [(0, .inr (.inr a)), (1, .inr (.inl v))] [] σ
    refine pr_aload_n tX0_raise_0 0 rfl ?_
    refine pr_get0 tX0_raise_1 rfl ha.1 rfl ?_
    refine pR_topi (y := (nI ec)) (by simp [pm_ui, pm_uj, upd, vp_updL, he]) ?_
    refine pr_bipush (v := nI 12) tX0_raise_4 rfl ?_
    refine pr_ic_ge (pc' := 29) tX0_raise_6 rfl (fun hc6 => ?_) (fun hc6 => ?_)
    · skip
      exact absurd ((nI_leI (by omega) (by omega)).mp hc6) (by omega)
    · skip
      have hc6 : ¬ 12 ≤ ec := fun z9 => hc6 ((nI_leI (by omega) (by omega)).mpr z9)
      refine pr_aload_n tX0_raise_9 0 rfl ?_
      refine pr_geta (j := a + 2) tX0_raise_10 rfl ha.1 rfl rfl ?_
      refine pr_aload_n tX0_raise_13 0 rfl ?_
      refine pr_get0 tX0_raise_14 rfl ha.1 rfl ?_
      refine pR_topi (y := (nI ec)) (by simp [pm_ui, pm_uj, upd, vp_updL, he]) ?_
      refine pr_lload_n tX0_raise_17 1 rfl ?_
      refine pr_las tX0_raise_18 ec ha.2.2.1 rfl (by omega) (by decide) ?_
      obtain ⟨σ1, eσ1⟩ : ∃ z : pST, z = (σ.1, pm_uj σ.2 (a + 2) ec v) := ⟨_, rfl⟩
      rw [← eσ1]
      refine pr_aload_n tX0_raise_19 0 rfl ?_
      refine pr_dup tX0_raise_20 rfl ?_
      refine pr_get0 tX0_raise_21 rfl ha.1 rfl ?_
      refine pR_topi (y := (nI ec)) (by simp [eσ1, pm_ui, pm_uj, upd, vp_updL, he]) ?_
      refine pr_iconst (v := nI 1) tX0_raise_24 rfl ?_
      refine pr_iadd (v := (nI (ec + 1))) tX0_raise_25 (nI_add _ _) ?_
      refine pr_put0 tX0_raise_26 rfl ha.1 rfl ?_
      obtain ⟨σ2, eσ2⟩ : ∃ z : pST, z = (pm_ui σ1.1 a 6 (nI (ec + 1)), σ1.2) := ⟨_, rfl⟩
      rw [← eσ2]
      refine pr_ret tX0_raise_29 rfl ?_
      rw [eσ2, eσ1]
      try rfl
  obtain ⟨x, h1, h2⟩ := key
  rw [h1, h2]

set_option maxRecDepth 100000 in
theorem ev_X0_fail (σ : pST) {a : Nat} (ha : isA a) : kX0_fail σ [.inr (.inr a)] = some (((pm_ui (pm_ui (pm_ui (σ.1) a 4 1) a 12 0) a 6 0, σ.2), none)) := by
  have key : ∃ x, kX0_fail σ [.inr (.inr a)] = some x ∧ x = ((pm_ui (pm_ui (pm_ui (σ.1) a 4 1) a 12 0) a 6 0, σ.2), none) := by
    refine pR_met (post := fun x => x = ((pm_ui (pm_ui (pm_ui (σ.1) a 4 1) a 12 0) a 6 0, σ.2), none)) ha.1 (Nat.le_of_ble_eq_true rfl) ?_
    show pR _ _ _ _ _ _ _ _ 0 [(0, .inr (.inr a))] [] σ
    refine pr_aload_n tX0_fail_0 0 rfl ?_
    refine pr_iconst (v := nI 1) tX0_fail_1 rfl ?_
    refine pr_put1 tX0_fail_2 rfl ha.1 rfl (by decide) ?_
    obtain ⟨σ1, eσ1⟩ : ∃ z : pST, z = (pm_ui σ.1 a 4 (nI 1), σ.2) := ⟨_, rfl⟩
    rw [← eσ1]
    refine pr_aload_n tX0_fail_5 0 rfl ?_
    refine pr_iconst (v := nI 0) tX0_fail_6 rfl ?_
    refine pr_put0 tX0_fail_7 rfl ha.1 rfl ?_
    obtain ⟨σ2, eσ2⟩ : ∃ z : pST, z = (pm_ui σ1.1 a 12 (nI 0), σ1.2) := ⟨_, rfl⟩
    rw [← eσ2]
    refine pr_aload_n tX0_fail_10 0 rfl ?_
    refine pr_iconst (v := nI 0) tX0_fail_11 rfl ?_
    refine pr_put0 tX0_fail_12 rfl ha.1 rfl ?_
    obtain ⟨σ3, eσ3⟩ : ∃ z : pST, z = (pm_ui σ2.1 a 6 (nI 0), σ2.2) := ⟨_, rfl⟩
    rw [← eσ3]
    refine pr_ret tX0_fail_15 rfl ?_
    rw [eσ3, eσ2, eσ1]
    try rfl
  obtain ⟨x, h1, h2⟩ := key
  rw [h1, h2]

set_option maxRecDepth 100000 in
theorem ev_X2_hasAct (σ : pST) {n c ac p : Nat} (hn : n ≤ 16) (hcn : σ.1 2 0 = nI n) (hc : c < 16) (hac : σ.1 3 c = nI ac) (hal : ac ≤ 12) (hp : p < 1000) : kX2_hasAct σ [.inr (.inr 2), .inl (nI c), .inl (nI p)] = some ((σ, some (.inl (if c < n ∧ p < ac then 1 else 0)))) := by
  have key : ∃ x, kX2_hasAct σ [.inr (.inr 2), .inl (nI c), .inl (nI p)] = some x ∧ x = (σ, some (.inl (if c < n ∧ p < ac then 1 else 0))) := by
    refine pR_met (post := fun x => x = (σ, some (.inl (if c < n ∧ p < ac then 1 else 0)))) rfl (Nat.le_of_ble_eq_true rfl) ?_
    show pR _ _ _ _ _ _ _ _ 0 [(0, .inr (.inr 2)), (1, .inl (nI c)), (2, .inl (nI p))] [] σ
    refine pr_iload_n tX2_hasAct_0 1 rfl ?_
    refine pr_if_lt (pc' := 30) tX2_hasAct_1 rfl (fun hc1 => ?_) (fun hc1 => ?_)
    · skip
      exact absurd hc1 (nI_pos (by omega))
    · skip
      refine pr_iload_n tX2_hasAct_4 1 rfl ?_
      refine pr_aload_n tX2_hasAct_5 0 rfl ?_
      refine pr_get0 tX2_hasAct_6 rfl rfl rfl ?_
      refine pR_topi (y := (nI n)) (by simp [pm_ui, pm_uj, upd, vp_updL, hcn]) ?_
      refine pr_ic_ge (pc' := 30) tX2_hasAct_9 rfl (fun hc9 => ?_) (fun hc9 => ?_)
      · skip
        have hc9 : n ≤ c := (nI_leI (by omega) (by omega)).mp hc9
        refine pr_iconst (v := nI 0) tX2_hasAct_30 rfl ?_
        refine pr_zret tX2_hasAct_31 rfl (by decide) ?_
        first | (rw [if_pos (by omega)]; rfl) | (rw [if_neg (by omega)]; rfl)
      · skip
        have hc9 : ¬ n ≤ c := fun z9 => hc9 ((nI_leI (by omega) (by omega)).mpr z9)
        refine pr_iload_n tX2_hasAct_12 2 rfl ?_
        refine pr_if_lt (pc' := 30) tX2_hasAct_13 rfl (fun hc13 => ?_) (fun hc13 => ?_)
        · skip
          exact absurd hc13 (nI_pos (by omega))
        · skip
          refine pr_iload_n tX2_hasAct_16 2 rfl ?_
          refine pr_aload_n tX2_hasAct_17 0 rfl ?_
          refine pr_geta (j := 3) tX2_hasAct_18 rfl rfl rfl rfl ?_
          refine pr_iload_n tX2_hasAct_21 1 rfl ?_
          refine pr_ial tX2_hasAct_22 c rfl rfl (by omega) (by decide) ?_
          refine pR_topi (y := (nI ac)) (by simp [pm_ui, pm_uj, upd, vp_updL, hac]) ?_
          refine pr_ic_ge (pc' := 30) tX2_hasAct_23 rfl (fun hc23 => ?_) (fun hc23 => ?_)
          · skip
            have hc23 : ac ≤ p := (nI_leI (by omega) (by omega)).mp hc23
            refine pr_iconst (v := nI 0) tX2_hasAct_30 rfl ?_
            refine pr_zret tX2_hasAct_31 rfl (by decide) ?_
            first | (rw [if_pos (by omega)]; rfl) | (rw [if_neg (by omega)]; rfl)
          · skip
            have hc23 : ¬ ac ≤ p := fun z9 => hc23 ((nI_leI (by omega) (by omega)).mpr z9)
            refine pr_iconst (v := nI 1) tX2_hasAct_26 rfl ?_
            refine pr_goto (pc' := 31) tX2_hasAct_27 rfl ?_
            refine pr_zret tX2_hasAct_31 rfl (by decide) ?_
            first | (rw [if_pos (by omega)]; rfl) | (rw [if_neg (by omega)]; rfl)
  obtain ⟨x, h1, h2⟩ := key
  rw [h1, h2]

set_option maxRecDepth 100000 in
theorem ev_X0_isOver (σ : pST) {a : Nat} (ha : isA a) {n c ac p : Nat} (hn : n ≤ 16) (hcn : σ.1 2 0 = nI n) (hc : c < 16) (hac : σ.1 3 c = nI ac) (hal : ac ≤ 12) (hp : p < 1000) (hs : σ.1 a 0 = nI c) (hx : σ.1 a 10 = nI p) : kX0_isOver σ [.inr (.inr a), .inr (.inr 2)] = some ((σ, some (.inl (if σ.1 a 4 = 0 ∧ c < n ∧ p < ac then 0 else 1)))) := by
  have key : ∃ x, kX0_isOver σ [.inr (.inr a), .inr (.inr 2)] = some x ∧ x = (σ, some (.inl (if σ.1 a 4 = 0 ∧ c < n ∧ p < ac then 0 else 1))) := by
    refine pR_met (post := fun x => x = (σ, some (.inl (if σ.1 a 4 = 0 ∧ c < n ∧ p < ac then 0 else 1)))) ha.1 (Nat.le_of_ble_eq_true rfl) ?_
    show pR _ _ _ _ _ _ _ _ 0 [(0, .inr (.inr a)), (1, .inr (.inr 2))] [] σ
    refine pr_aload_n tX0_isOver_0 0 rfl ?_
    refine pr_get1 tX0_isOver_1 rfl ha.1 rfl ?_
    refine pr_if_ne (pc' := 22) tX0_isOver_4 rfl (fun hc4 => ?_) (fun hc4 => ?_)
    · skip
      refine pr_iconst (v := nI 1) tX0_isOver_22 rfl ?_
      refine pr_goto (pc' := 27) tX0_isOver_23 rfl ?_
      refine pr_zret tX0_isOver_27 rfl (by decide) ?_
      first | (rw [if_pos (by grind)]; rfl) | (rw [if_neg (by grind)]; rfl)
    · skip
      refine pr_aload_n tX0_isOver_7 1 rfl ?_
      refine pr_aload_n tX0_isOver_8 0 rfl ?_
      refine pr_get3 tX0_isOver_9 rfl ha.1 rfl ?_
      refine pR_topi (y := (nI c)) (by simp [pm_ui, pm_uj, upd, vp_updL, hs]) ?_
      refine pr_aload_n tX0_isOver_12 0 rfl ?_
      refine pr_get0 tX0_isOver_13 rfl ha.1 rfl ?_
      refine pR_topi (y := (nI p)) (by simp [pm_ui, pm_uj, upd, vp_updL, hx]) ?_
      refine pr_callV tX0_isOver_16 rfl ⟨Nat.le_of_ble_eq_true rfl, Nat.le_of_ble_eq_true rfl, rfl⟩ (ev_X2_hasAct σ hn hcn hc hac hal hp) ?_
      refine pR_eq (st' := [.inl (if c < n ∧ p < ac then 1 else 0)]) rfl rfl ?_
      refine pr_if_ne (pc' := 26) tX0_isOver_19 rfl (fun hc19 => ?_) (fun hc19 => ?_)
      · skip
        refine pr_iconst (v := nI 0) tX0_isOver_26 rfl ?_
        refine pr_zret tX0_isOver_27 rfl (by decide) ?_
        first | (rw [if_pos (by grind)]; rfl) | (rw [if_neg (by grind)]; rfl)
      · skip
        refine pr_iconst (v := nI 1) tX0_isOver_22 rfl ?_
        refine pr_goto (pc' := 27) tX0_isOver_23 rfl ?_
        refine pr_zret tX0_isOver_27 rfl (by decide) ?_
        first | (rw [if_pos (by grind)]; rfl) | (rw [if_neg (by grind)]; rfl)
  obtain ⟨x, h1, h2⟩ := key
  rw [h1, h2]
