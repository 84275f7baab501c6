/-! ===== the reference's leaves ===== -/
def rngI (I : Nat → Nat → Int32) (a lo n : Nat) (v : Int32) : Nat → Nat → Int32 := fun x y => if x = a ∧ lo ≤ y ∧ y < lo + n then v else I x y
def rngJ (J : Nat → Nat → Int64) (a lo n : Nat) (v : Int64) : Nat → Nat → Int64 := fun x y => if x = a ∧ lo ≤ y ∧ y < lo + n then v else J x y
theorem rngI_s {I : Nat → Nat → Int32} {a lo n : Nat} {v : Int32} : pm_ui (rngI I a lo n v) a (lo + n) v = rngI I a lo (n + 1) v := by
  funext x y
  unfold pm_ui rngI
  by_cases hx : x = a
  · subst hx
    by_cases hy : y = lo + n
    · subst hy; simp [upd]
    · simp only [if_true, upd, hy, if_false, true_and]
      by_cases h1 : lo ≤ y ∧ y < lo + n
      · rw [if_pos h1, if_pos (by omega)]
      · rw [if_neg h1, if_neg (by omega)]
  · simp [hx]
theorem rngJ_s {J : Nat → Nat → Int64} {a lo n : Nat} {v : Int64} : pm_uj (rngJ J a lo n v) a (lo + n) v = rngJ J a lo (n + 1) v := by
  funext x y
  unfold pm_uj rngJ
  by_cases hx : x = a
  · subst hx
    by_cases hy : y = lo + n
    · subst hy; simp [vp_updL]
    · simp only [if_true, vp_updL, hy, if_false, true_and]
      by_cases h1 : lo ≤ y ∧ y < lo + n
      · rw [if_pos h1, if_pos (by omega)]
      · rw [if_neg h1, if_neg (by omega)]
  · simp [hx]
theorem rngI_0 {I : Nat → Nat → Int32} {a lo : Nat} {v : Int32} : rngI I a lo 0 v = I := by
  funext x y
  unfold rngI
  rw [if_neg (by omega)]
theorem rngJ_0 {J : Nat → Nat → Int64} {a lo : Nat} {v : Int64} : rngJ J a lo 0 v = J := by
  funext x y
  unfold rngJ
  rw [if_neg (by omega)]

set_option maxRecDepth 100000 in
theorem ev_X8_isOver (σ : pST) {c p ac : Nat} (hc : c < 16) (hp : σ.1 7 c = nI p) (hac : σ.1 2 c = nI ac) (hpl : p < 1000) (hal : ac ≤ 12) : kX8_isOver σ [.inr (.inr 0), .inl (nI c)] = some ((σ, some (.inl (if σ.1 9 c = 0 ∧ p < ac then 0 else 1)))) := by
  have key : ∃ x, kX8_isOver σ [.inr (.inr 0), .inl (nI c)] = some x ∧ x = (σ, some (.inl (if σ.1 9 c = 0 ∧ p < ac then 0 else 1))) := by
    refine pR_met (post := fun x => x = (σ, some (.inl (if σ.1 9 c = 0 ∧ p < ac then 0 else 1)))) rfl (Nat.le_of_ble_eq_true rfl) ?_
    show pR _ _ _ _ _ _ _ _ 0 [(0, .inr (.inr 0)), (1, .inl (nI c))] [] σ
    refine pr_aload_n tX8_isOver_0 0 rfl ?_
    refine pr_geta (j := 9) tX8_isOver_1 rfl rfl rfl rfl ?_
    refine pr_iload_n tX8_isOver_4 1 rfl ?_
    refine pr_zal tX8_isOver_5 c rfl rfl (by omega) (by decide) ?_
    refine pr_if_ne (pc' := 24) tX8_isOver_6 rfl (fun hc6 => ?_) (fun hc6 => ?_)
    · skip
      refine pr_iconst (v := nI 1) tX8_isOver_24 rfl ?_
      refine pr_goto (pc' := 29) tX8_isOver_25 rfl ?_
      refine pr_zret tX8_isOver_29 rfl (by decide) ?_
      first | (rw [if_pos (by grind)]; try rfl) | (rw [if_neg (by grind)]; try rfl)
    · skip
      refine pr_aload_n tX8_isOver_9 0 rfl ?_
      refine pr_geta (j := 7) tX8_isOver_10 rfl rfl rfl rfl ?_
      refine pr_iload_n tX8_isOver_13 1 rfl ?_
      refine pr_ial tX8_isOver_14 c rfl rfl (by omega) (by decide) ?_
      refine pR_topi (y := (nI p)) (by simp [pm_ui, pm_uj, upd, vp_updL, hp]) ?_
      refine pr_aload_n tX8_isOver_15 0 rfl ?_
      refine pr_geta (j := 2) tX8_isOver_16 rfl rfl rfl rfl ?_
      refine pr_iload_n tX8_isOver_19 1 rfl ?_
      refine pr_ial tX8_isOver_20 c rfl rfl (by omega) (by decide) ?_
      refine pR_topi (y := (nI ac)) (by simp [pm_ui, pm_uj, upd, vp_updL, hac]) ?_
      refine pr_ic_lt (pc' := 28) tX8_isOver_21 rfl (fun hc21 => ?_) (fun hc21 => ?_)
      · skip
        have hc21 : p < ac := (nI_ltI (by omega) (by omega)).mp hc21
        refine pr_iconst (v := nI 0) tX8_isOver_28 rfl ?_
        refine pr_zret tX8_isOver_29 rfl (by decide) ?_
        first | (rw [if_pos (by grind)]; try rfl) | (rw [if_neg (by grind)]; try rfl)
      · skip
        have hc21 : ¬ p < ac := fun z9 => hc21 ((nI_ltI (by omega) (by omega)).mpr z9)
        refine pr_iconst (v := nI 1) tX8_isOver_24 rfl ?_
        refine pr_goto (pc' := 29) tX8_isOver_25 rfl ?_
        refine pr_zret tX8_isOver_29 rfl (by decide) ?_
        first | (rw [if_pos (by grind)]; try rfl) | (rw [if_neg (by grind)]; try rfl)
  obtain ⟨x, h1, h2⟩ := key
  rw [h1, h2]

set_option maxRecDepth 100000 in
theorem ev_X8_conflict0 (σ : pST) {m : Nat} (hm : σ.1 0 47 = nI m) (hl : m < 2 ^ 30) (u w : Int32) : kX8_conflict0 σ [.inr (.inr 0), .inl u, .inl w] = some (((pm_ui (if m < 200 then pm_ui (pm_ui (σ.1) 32 m u) 33 m w else σ.1) 0 47 (nI (m + 1)), σ.2), none)) := by
  have key : ∃ x, kX8_conflict0 σ [.inr (.inr 0), .inl u, .inl w] = some x ∧ x = ((pm_ui (if m < 200 then pm_ui (pm_ui (σ.1) 32 m u) 33 m w else σ.1) 0 47 (nI (m + 1)), σ.2), none) := by
    refine pR_met (post := fun x => x = ((pm_ui (if m < 200 then pm_ui (pm_ui (σ.1) 32 m u) 33 m w else σ.1) 0 47 (nI (m + 1)), σ.2), none)) rfl (Nat.le_of_ble_eq_true rfl) ?_
    show pR _ _ _ _ _ _ _ _ 0 [(0, .inr (.inr 0)), (1, .inl u), (2, .inl w)] [] σ
    refine pr_aload_n tX8_conflict0_0 0 rfl ?_
    refine pr_get0 tX8_conflict0_1 rfl rfl rfl ?_
    refine pR_topi (y := (nI m)) (by simp [pm_ui, pm_uj, upd, vp_updL, hm]) ?_
    refine pr_sipush (v := nI 200) tX8_conflict0_4 rfl ?_
    refine pr_ic_ge (pc' := 30) tX8_conflict0_7 rfl (fun hc7 => ?_) (fun hc7 => ?_)
    · skip
      have hc7 : 200 ≤ m := (nI_leI (by omega) (by omega)).mp hc7
      refine pr_aload_n tX8_conflict0_30 0 rfl ?_
      refine pr_dup tX8_conflict0_31 rfl ?_
      refine pr_get0 tX8_conflict0_32 rfl rfl rfl ?_
      refine pR_topi (y := (nI m)) (by simp [pm_ui, pm_uj, upd, vp_updL, hm]) ?_
      refine pr_iconst (v := nI 1) tX8_conflict0_35 rfl ?_
      refine pr_iadd (v := (nI (m + 1))) tX8_conflict0_36 (nI_add _ _) ?_
      refine pr_put0 tX8_conflict0_37 rfl rfl rfl ?_
      obtain ⟨σ1, eσ1⟩ : ∃ z : pST, z = (pm_ui σ.1 0 47 (nI (m + 1)), σ.2) := ⟨_, rfl⟩
      rw [← eσ1]
      refine pr_ret tX8_conflict0_40 rfl ?_
      rw [if_neg (by omega), eσ1]
    · skip
      have hc7 : ¬ 200 ≤ m := fun z9 => hc7 ((nI_leI (by omega) (by omega)).mpr z9)
      refine pr_aload_n tX8_conflict0_10 0 rfl ?_
      refine pr_geta (j := 32) tX8_conflict0_11 rfl rfl rfl rfl ?_
      refine pr_aload_n tX8_conflict0_14 0 rfl ?_
      refine pr_get0 tX8_conflict0_15 rfl rfl rfl ?_
      refine pR_topi (y := (nI m)) (by simp [pm_ui, pm_uj, upd, vp_updL, hm]) ?_
      refine pr_iload_n tX8_conflict0_18 1 rfl ?_
      refine pr_ias tX8_conflict0_19 m rfl rfl (by omega) (by decide) ?_
      obtain ⟨σ2, eσ2⟩ : ∃ z : pST, z = (pm_ui σ.1 32 m u, σ.2) := ⟨_, rfl⟩
      rw [← eσ2]
      refine pr_aload_n tX8_conflict0_20 0 rfl ?_
      refine pr_geta (j := 33) tX8_conflict0_21 rfl rfl rfl rfl ?_
      refine pr_aload_n tX8_conflict0_24 0 rfl ?_
      refine pr_get0 tX8_conflict0_25 rfl rfl rfl ?_
      refine pR_topi (y := (nI m)) (by simp [eσ2, pm_ui, pm_uj, upd, vp_updL, hm]) ?_
      refine pr_iload_n tX8_conflict0_28 2 rfl ?_
      refine pr_ias tX8_conflict0_29 m rfl rfl (by omega) (by decide) ?_
      obtain ⟨σ3, eσ3⟩ : ∃ z : pST, z = (pm_ui σ2.1 33 m w, σ2.2) := ⟨_, rfl⟩
      rw [← eσ3]
      refine pr_aload_n tX8_conflict0_30 0 rfl ?_
      refine pr_dup tX8_conflict0_31 rfl ?_
      refine pr_get0 tX8_conflict0_32 rfl rfl rfl ?_
      refine pR_topi (y := (nI m)) (by simp [eσ2, eσ3, pm_ui, pm_uj, upd, vp_updL, hm]) ?_
      refine pr_iconst (v := nI 1) tX8_conflict0_35 rfl ?_
      refine pr_iadd (v := (nI (m + 1))) tX8_conflict0_36 (nI_add _ _) ?_
      refine pr_put0 tX8_conflict0_37 rfl rfl rfl ?_
      obtain ⟨σ4, eσ4⟩ : ∃ z : pST, z = (pm_ui σ3.1 0 47 (nI (m + 1)), σ3.2) := ⟨_, rfl⟩
      rw [← eσ4]
      refine pr_ret tX8_conflict0_40 rfl ?_
      rw [if_pos (by omega), eσ4, eσ3, eσ2]
  obtain ⟨x, h1, h2⟩ := key
  rw [h1, h2]

set_option maxRecDepth 100000 in
theorem ev_X8_toLook (σ : pST) {w c : Nat} (hw : w < 4) (hc : c < 16) : kX8_toLook σ [.inr (.inr 0), .inl (nI w), .inl (nI c)] = some (((pm_ui (pm_ui (pm_ui (σ.1) 28 w (nI 2)) 29 w (nI c)) 30 w (σ.1 26 c), σ.2), none)) := by
  have key : ∃ x, kX8_toLook σ [.inr (.inr 0), .inl (nI w), .inl (nI c)] = some x ∧ x = ((pm_ui (pm_ui (pm_ui (σ.1) 28 w (nI 2)) 29 w (nI c)) 30 w (σ.1 26 c), σ.2), none) := by
    refine pR_met (post := fun x => x = ((pm_ui (pm_ui (pm_ui (σ.1) 28 w (nI 2)) 29 w (nI c)) 30 w (σ.1 26 c), σ.2), none)) rfl (Nat.le_of_ble_eq_true rfl) ?_
    show pR _ _ _ _ _ _ _ _ 0 [(0, .inr (.inr 0)), (1, .inl (nI w)), (2, .inl (nI c))] [] σ
    refine pr_aload_n tX8_toLook_0 0 rfl ?_
    refine pr_geta (j := 28) tX8_toLook_1 rfl rfl rfl rfl ?_
    refine pr_iload_n tX8_toLook_4 1 rfl ?_
    refine pr_iconst (v := nI 2) tX8_toLook_5 rfl ?_
    refine pr_ias tX8_toLook_6 w rfl rfl (by omega) (by decide) ?_
    obtain ⟨σ1, eσ1⟩ : ∃ z : pST, z = (pm_ui σ.1 28 w (nI 2), σ.2) := ⟨_, rfl⟩
    rw [← eσ1]
    refine pr_aload_n tX8_toLook_7 0 rfl ?_
    refine pr_geta (j := 29) tX8_toLook_8 rfl rfl rfl rfl ?_
    refine pr_iload_n tX8_toLook_11 1 rfl ?_
    refine pr_iload_n tX8_toLook_12 2 rfl ?_
    refine pr_ias tX8_toLook_13 w rfl rfl (by omega) (by decide) ?_
    obtain ⟨σ2, eσ2⟩ : ∃ z : pST, z = (pm_ui σ1.1 29 w (nI c), σ1.2) := ⟨_, rfl⟩
    rw [← eσ2]
    refine pr_aload_n tX8_toLook_14 0 rfl ?_
    refine pr_geta (j := 30) tX8_toLook_15 rfl rfl rfl rfl ?_
    refine pr_iload_n tX8_toLook_18 1 rfl ?_
    refine pr_aload_n tX8_toLook_19 0 rfl ?_
    refine pr_geta (j := 26) tX8_toLook_20 rfl rfl rfl rfl ?_
    refine pr_iload_n tX8_toLook_23 2 rfl ?_
    refine pr_ial tX8_toLook_24 c rfl rfl (by omega) (by decide) ?_
    refine pR_topi (y := (σ.1 26 c)) (by simp [eσ1, eσ2, pm_ui, pm_uj, upd, vp_updL]) ?_
    refine pr_ias tX8_toLook_25 w rfl rfl (by omega) (by decide) ?_
    obtain ⟨σ3, eσ3⟩ : ∃ z : pST, z = (pm_ui σ2.1 30 w (σ.1 26 c), σ2.2) := ⟨_, rfl⟩
    rw [← eσ3]
    refine pr_ret tX8_toLook_26 rfl ?_
    rw [eσ3, eσ2, eσ1]
    try rfl
  obtain ⟨x, h1, h2⟩ := key
  rw [h1, h2]

set_option maxRecDepth 100000 in
theorem ev_X6_giveLook (σ : pST) {w c : Nat} (hw : w < 4) (hc : c < 16) : kX6_giveLook σ [.inr (.inr 8), .inl (nI w), .inl (nI c)] = some (((pm_ui (pm_ui (pm_ui (σ.1) 150 w (nI 2)) 151 w (nI c)) 152 w (σ.1 149 c), σ.2), none)) := by
  have key : ∃ x, kX6_giveLook σ [.inr (.inr 8), .inl (nI w), .inl (nI c)] = some x ∧ x = ((pm_ui (pm_ui (pm_ui (σ.1) 150 w (nI 2)) 151 w (nI c)) 152 w (σ.1 149 c), σ.2), none) := by
    refine pR_met (post := fun x => x = ((pm_ui (pm_ui (pm_ui (σ.1) 150 w (nI 2)) 151 w (nI c)) 152 w (σ.1 149 c), σ.2), none)) rfl (Nat.le_of_ble_eq_true rfl) ?_
    show pR _ _ _ _ _ _ _ _ 0 [(0, .inr (.inr 8)), (1, .inl (nI w)), (2, .inl (nI c))] [] σ
    refine pr_aload_n tX6_giveLook_0 0 rfl ?_
    refine pr_geta (j := 150) tX6_giveLook_1 rfl rfl rfl rfl ?_
    refine pr_iload_n tX6_giveLook_4 1 rfl ?_
    refine pr_iconst (v := nI 2) tX6_giveLook_5 rfl ?_
    refine pr_ias tX6_giveLook_6 w rfl rfl (by omega) (by decide) ?_
    obtain ⟨σ1, eσ1⟩ : ∃ z : pST, z = (pm_ui σ.1 150 w (nI 2), σ.2) := ⟨_, rfl⟩
    rw [← eσ1]
    refine pr_aload_n tX6_giveLook_7 0 rfl ?_
    refine pr_geta (j := 151) tX6_giveLook_8 rfl rfl rfl rfl ?_
    refine pr_iload_n tX6_giveLook_11 1 rfl ?_
    refine pr_iload_n tX6_giveLook_12 2 rfl ?_
    refine pr_ias tX6_giveLook_13 w rfl rfl (by omega) (by decide) ?_
    obtain ⟨σ2, eσ2⟩ : ∃ z : pST, z = (pm_ui σ1.1 151 w (nI c), σ1.2) := ⟨_, rfl⟩
    rw [← eσ2]
    refine pr_aload_n tX6_giveLook_14 0 rfl ?_
    refine pr_geta (j := 152) tX6_giveLook_15 rfl rfl rfl rfl ?_
    refine pr_iload_n tX6_giveLook_18 1 rfl ?_
    refine pr_aload_n tX6_giveLook_19 0 rfl ?_
    refine pr_geta (j := 149) tX6_giveLook_20 rfl rfl rfl rfl ?_
    refine pr_iload_n tX6_giveLook_23 2 rfl ?_
    refine pr_ial tX6_giveLook_24 c rfl rfl (by omega) (by decide) ?_
    refine pR_topi (y := (σ.1 149 c)) (by simp [eσ1, eσ2, pm_ui, pm_uj, upd, vp_updL]) ?_
    refine pr_ias tX6_giveLook_25 w rfl rfl (by omega) (by decide) ?_
    obtain ⟨σ3, eσ3⟩ : ∃ z : pST, z = (pm_ui σ2.1 152 w (σ.1 149 c), σ2.2) := ⟨_, rfl⟩
    rw [← eσ3]
    refine pr_ret tX6_giveLook_26 rfl ?_
    rw [eσ3, eσ2, eσ1]
    try rfl
  obtain ⟨x, h1, h2⟩ := key
  rw [h1, h2]

set_option maxRecDepth 100000 in
theorem ev_X8_leafOf (σ : pST) (v : Int64) : kX8_leafOf σ [.inr (.inl v)] = some ((σ, some (.inl (if 0 ≤ (v - v / 32 * 32).toInt32 then (v - v / 32 * 32).toInt32 else (v - v / 32 * 32).toInt32 + nI 32)))) := by
  have key : ∃ x, kX8_leafOf σ [.inr (.inl v)] = some x ∧ x = (σ, some (.inl (if 0 ≤ (v - v / 32 * 32).toInt32 then (v - v / 32 * 32).toInt32 else (v - v / 32 * 32).toInt32 + nI 32))) := by
    refine pR_metS (post := fun x => x = (σ, some (.inl (if 0 ≤ (v - v / 32 * 32).toInt32 then (v - v / 32 * 32).toInt32 else (v - v / 32 * 32).toInt32 + nI 32)))) (Nat.le_of_ble_eq_true rfl) ?_
    show pR _ _ _ _ _ _ _ _ 0 [(0, .inr (.inl v))] [] σ
    refine pr_lload_n tX8_leafOf_0 0 rfl ?_
    refine pr_ldc2 tX8_leafOf_1 rfl ?_
    refine pr_lrem (v := (v - v / 32 * 32)) tX8_leafOf_4 (by decide) rfl ?_
    refine pr_l2i (v := ((v - v / 32 * 32).toInt32)) tX8_leafOf_5 (rfl) ?_
    refine pr_istore_n (L' := [(2, .inl ((v - v / 32 * 32).toInt32)), (0, .inr (.inl v))]) tX8_leafOf_6 (by decide) rfl ?_
    refine pr_iload_n tX8_leafOf_7 0 rfl ?_
    refine pr_if_ge (pc' := 18) tX8_leafOf_8 rfl (fun hc8 => ?_) (fun hc8 => ?_)
    · skip
      refine pr_iload_n tX8_leafOf_18 0 rfl ?_
      refine pr_iret tX8_leafOf_19 rfl ?_
      first | (rw [if_pos (by grind)]; try rfl) | (rw [if_neg (by grind)]; try rfl)
    · skip
      refine pr_iload_n tX8_leafOf_11 0 rfl ?_
      refine pr_bipush (v := nI 32) tX8_leafOf_12 rfl ?_
      refine pr_iadd (v := (((v - v / 32 * 32).toInt32) + (nI 32))) tX8_leafOf_14 (rfl) ?_
      refine pr_goto (pc' := 19) tX8_leafOf_15 rfl ?_
      refine pr_iret tX8_leafOf_19 rfl ?_
      first | (rw [if_pos (by grind)]; try rfl) | (rw [if_neg (by grind)]; try rfl)
  obtain ⟨x, h1, h2⟩ := key
  rw [h1, h2]

set_option maxRecDepth 100000 in
theorem lp2_X8_begin (σ : pST) {c : Nat} (hc : c < 16) : ∀ (m i : Nat), i + m = 32 → pR shM tX8_begin fX8_begin qX8_begin lX8_begin 3 0 (fun x => x = ((rngI σ.1 10 (32 * c) 32 0, σ.2), none)) 71 [(2, .inl (nI i)), (1, .inl (nI c)), (0, .inr (.inr 0))] [] (rngI σ.1 10 (32 * c) i 0, σ.2) := by
  intro m
  induction m with
  | zero =>
    intro i hi
    refine pr_iload_n tX8_begin_71 0 rfl ?_
    refine pr_bipush (v := nI 32) tX8_begin_72 rfl ?_
    refine pr_ic_ge (pc' := 95) tX8_begin_74 rfl (fun hc74 => ?_) (fun hc74 => ?_)
    · skip
      have hc74 : 32 ≤ i := (nI_leI (by omega) (by omega)).mp hc74
      rw [show i = 32 by omega]
      refine pr_ret tX8_begin_95 rfl ?_
      rfl
    · skip
      exact absurd ((nI_leI (by omega) (by omega)).mpr (by omega)) hc74
  | succ m ih =>
    intro i hi
    refine pr_iload_n tX8_begin_71 0 rfl ?_
    refine pr_bipush (v := nI 32) tX8_begin_72 rfl ?_
    refine pr_ic_ge (pc' := 95) tX8_begin_74 rfl (fun hc74 => ?_) (fun hc74 => ?_)
    · skip
      exact absurd ((nI_leI (by omega) (by omega)).mp hc74) (by omega)
    · skip
      have hc74 : ¬ 32 ≤ i := fun z9 => hc74 ((nI_leI (by omega) (by omega)).mpr z9)
      refine pr_aload_n tX8_begin_77 2 rfl ?_
      refine pr_geta (j := 10) tX8_begin_78 rfl rfl rfl rfl ?_
      refine pr_bipush (v := nI 32) tX8_begin_81 rfl ?_
      refine pr_iload_n tX8_begin_83 1 rfl ?_
      refine pr_imul (v := (nI (32 * c))) tX8_begin_84 (pk_mul _ _) ?_
      refine pr_iload_n tX8_begin_85 0 rfl ?_
      refine pr_iadd (v := (nI (32 * c + i))) tX8_begin_86 (nI_add _ _) ?_
      refine pr_iconst (v := nI 0) tX8_begin_87 rfl ?_
      refine pr_zas tX8_begin_88 (32 * c + i) rfl rfl (by omega) (by decide) (by decide) ?_
      obtain ⟨σ1, eσ1⟩ : ∃ z : pST, z = (pm_ui (rngI σ.1 10 (32 * c) i 0, σ.2).1 10 (32 * c + i) (nI 0), (rngI σ.1 10 (32 * c) i 0, σ.2).2) := ⟨_, rfl⟩
      rw [← eσ1]
      refine pr_iinc (v := (nI (i + 1))) (L' := [(2, .inl (nI (i + 1))), (1, .inl (nI c)), (0, .inr (.inr 0))]) tX8_begin_89 0 rfl (nI_1 _) (by decide) rfl ?_
      refine pr_goto (pc' := 71) tX8_begin_92 rfl ?_
      refine pR_sub (L' := [(2, .inl (nI (i + 1))), (1, .inl (nI c)), (0, .inr (.inr 0))]) [0, 1, 2] rfl ?_
      rw [eσ1, show (pm_ui (rngI σ.1 10 (32 * c) i 0, σ.2).1 10 (32 * c + i) (nI 0), (rngI σ.1 10 (32 * c) i 0, σ.2).2) = ((rngI σ.1 10 (32 * c) (i + 1) 0, σ.2) : pST) from congrArg (fun z => (z, σ.2)) rngI_s]
      exact ih (i + 1) (by omega)

set_option maxRecDepth 100000 in
theorem lp1_X8_begin (σ : pST) {c : Nat} (hc : c < 16) : ∀ (m i : Nat), i + m = 4 → pR shM tX8_begin fX8_begin qX8_begin lX8_begin 3 0 (fun x => x = ((rngI σ.1 10 (32 * c) 32 0, rngJ σ.2 8 (4 * c) 4 0), none)) 47 [(2, .inl (nI i)), (1, .inl (nI c)), (0, .inr (.inr 0))] [] (σ.1, rngJ σ.2 8 (4 * c) i 0) := by
  intro m
  induction m with
  | zero =>
    intro i hi
    refine pr_iload_n tX8_begin_47 0 rfl ?_
    refine pr_iconst (v := nI 4) tX8_begin_48 rfl ?_
    refine pr_ic_ge (pc' := 69) tX8_begin_49 rfl (fun hc49 => ?_) (fun hc49 => ?_)
    · skip
      have hc49 : 4 ≤ i := (nI_leI (by omega) (by omega)).mp hc49
      refine pr_iconst (v := nI 0) tX8_begin_69 rfl ?_
      refine pr_istore_n (L' := [(2, .inl (nI 0)), (1, .inl (nI c)), (0, .inr (.inr 0))]) tX8_begin_70 (by decide) rfl ?_
      rw [show i = 4 by omega]
      refine pR_sub (L' := [(2, .inl (nI 0)), (1, .inl (nI c)), (0, .inr (.inr 0))]) [0, 1, 2] rfl ?_
      have h9 := lp2_X8_begin (σ.1, rngJ σ.2 8 (4 * c) 4 0) hc 32 0 (by omega)
      rw [rngI_0] at h9
      exact h9
    · skip
      exact absurd ((nI_leI (by omega) (by omega)).mpr (by omega)) hc49
  | succ m ih =>
    intro i hi
    refine pr_iload_n tX8_begin_47 0 rfl ?_
    refine pr_iconst (v := nI 4) tX8_begin_48 rfl ?_
    refine pr_ic_ge (pc' := 69) tX8_begin_49 rfl (fun hc49 => ?_) (fun hc49 => ?_)
    · skip
      exact absurd ((nI_leI (by omega) (by omega)).mp hc49) (by omega)
    · skip
      have hc49 : ¬ 4 ≤ i := fun z9 => hc49 ((nI_leI (by omega) (by omega)).mpr z9)
      refine pr_aload_n tX8_begin_52 2 rfl ?_
      refine pr_geta (j := 8) tX8_begin_53 rfl rfl rfl rfl ?_
      refine pr_iconst (v := nI 4) tX8_begin_56 rfl ?_
      refine pr_iload_n tX8_begin_57 1 rfl ?_
      refine pr_imul (v := (nI (4 * c))) tX8_begin_58 (pk_mul _ _) ?_
      refine pr_iload_n tX8_begin_59 0 rfl ?_
      refine pr_iadd (v := (nI (4 * c + i))) tX8_begin_60 (nI_add _ _) ?_
      refine pr_lconst (v := 0) tX8_begin_61 rfl ?_
      refine pr_las tX8_begin_62 (4 * c + i) rfl rfl (by omega) (by decide) ?_
      obtain ⟨σ1, eσ1⟩ : ∃ z : pST, z = ((σ.1, rngJ σ.2 8 (4 * c) i 0).1, pm_uj (σ.1, rngJ σ.2 8 (4 * c) i 0).2 8 (4 * c + i) (0 : Int64)) := ⟨_, rfl⟩
      rw [← eσ1]
      refine pr_iinc (v := (nI (i + 1))) (L' := [(2, .inl (nI (i + 1))), (1, .inl (nI c)), (0, .inr (.inr 0))]) tX8_begin_63 0 rfl (nI_1 _) (by decide) rfl ?_
      refine pr_goto (pc' := 47) tX8_begin_66 rfl ?_
      refine pR_sub (L' := [(2, .inl (nI (i + 1))), (1, .inl (nI c)), (0, .inr (.inr 0))]) [0, 1, 2] rfl ?_
      rw [eσ1, show ((σ.1, rngJ σ.2 8 (4 * c) i 0).1, pm_uj (σ.1, rngJ σ.2 8 (4 * c) i 0).2 8 (4 * c + i) 0) = ((σ.1, rngJ σ.2 8 (4 * c) (i + 1) 0) : pST) from congrArg (fun z => (σ.1, z)) rngJ_s]
      exact ih (i + 1) (by omega)

/-- what begin(c) leaves -/
def begM (σ : pST) (c : Nat) : pST := (rngI (pm_ui (pm_ui (pm_ui (pm_ui (pm_ui (pm_ui (σ.1) 19 c (σ.1 19 c + 1)) 7 c 0) 20 c 0) 9 c 0) 12 c 0) 17 c 0) 10 (32 * c) 32 0, rngJ σ.2 8 (4 * c) 4 0)
set_option maxRecDepth 100000 in
theorem ev_X8_begin (σ : pST) {c : Nat} (hc : c < 16) : kX8_begin σ [.inr (.inr 0), .inl (nI c)] = some ((begM σ c, none)) := by
  have key : ∃ x, kX8_begin σ [.inr (.inr 0), .inl (nI c)] = some x ∧ x = (begM σ c, none) := by
    refine pR_met (post := fun x => x = (begM σ c, none)) rfl (Nat.le_of_ble_eq_true rfl) ?_
    show pR _ _ _ _ _ _ _ _ 0 [(0, .inr (.inr 0)), (1, .inl (nI c))] [] σ
    refine pr_aload_n tX8_begin_0 0 rfl ?_
    refine pr_geta (j := 19) tX8_begin_1 rfl rfl rfl rfl ?_
    refine pr_iload_n tX8_begin_4 1 rfl ?_
    refine pr_dup2 tX8_begin_5 ⟨rfl, rfl⟩ ?_
    refine pr_ial tX8_begin_6 c rfl rfl (by omega) (by decide) ?_
    refine pR_topi (y := (σ.1 19 c)) (by simp [pm_ui, pm_uj, upd, vp_updL]) ?_
    refine pr_iconst (v := nI 1) tX8_begin_7 rfl ?_
    refine pr_iadd (v := ((σ.1 19 c) + (nI 1))) tX8_begin_8 (rfl) ?_
    refine pr_ias tX8_begin_9 c rfl rfl (by omega) (by decide) ?_
    obtain ⟨σ1, eσ1⟩ : ∃ z : pST, z = (pm_ui σ.1 19 c ((σ.1 19 c) + (nI 1)), σ.2) := ⟨_, rfl⟩
    rw [← eσ1]
    refine pr_aload_n tX8_begin_10 0 rfl ?_
    refine pr_geta (j := 7) tX8_begin_11 rfl rfl rfl rfl ?_
    refine pr_iload_n tX8_begin_14 1 rfl ?_
    refine pr_iconst (v := nI 0) tX8_begin_15 rfl ?_
    refine pr_ias tX8_begin_16 c rfl rfl (by omega) (by decide) ?_
    obtain ⟨σ2, eσ2⟩ : ∃ z : pST, z = (pm_ui σ1.1 7 c (nI 0), σ1.2) := ⟨_, rfl⟩
    rw [← eσ2]
    refine pr_aload_n tX8_begin_17 0 rfl ?_
    refine pr_geta (j := 20) tX8_begin_18 rfl rfl rfl rfl ?_
    refine pr_iload_n tX8_begin_21 1 rfl ?_
    refine pr_iconst (v := nI 0) tX8_begin_22 rfl ?_
    refine pr_ias tX8_begin_23 c rfl rfl (by omega) (by decide) ?_
    obtain ⟨σ3, eσ3⟩ : ∃ z : pST, z = (pm_ui σ2.1 20 c (nI 0), σ2.2) := ⟨_, rfl⟩
    rw [← eσ3]
    refine pr_aload_n tX8_begin_24 0 rfl ?_
    refine pr_geta (j := 9) tX8_begin_25 rfl rfl rfl rfl ?_
    refine pr_iload_n tX8_begin_28 1 rfl ?_
    refine pr_iconst (v := nI 0) tX8_begin_29 rfl ?_
    refine pr_zas tX8_begin_30 c rfl rfl (by omega) (by decide) (by decide) ?_
    obtain ⟨σ4, eσ4⟩ : ∃ z : pST, z = (pm_ui σ3.1 9 c (nI 0), σ3.2) := ⟨_, rfl⟩
    rw [← eσ4]
    refine pr_aload_n tX8_begin_31 0 rfl ?_
    refine pr_geta (j := 12) tX8_begin_32 rfl rfl rfl rfl ?_
    refine pr_iload_n tX8_begin_35 1 rfl ?_
    refine pr_iconst (v := nI 0) tX8_begin_36 rfl ?_
    refine pr_ias tX8_begin_37 c rfl rfl (by omega) (by decide) ?_
    obtain ⟨σ5, eσ5⟩ : ∃ z : pST, z = (pm_ui σ4.1 12 c (nI 0), σ4.2) := ⟨_, rfl⟩
    rw [← eσ5]
    refine pr_aload_n tX8_begin_38 0 rfl ?_
    refine pr_geta (j := 17) tX8_begin_39 rfl rfl rfl rfl ?_
    refine pr_iload_n tX8_begin_42 1 rfl ?_
    refine pr_iconst (v := nI 0) tX8_begin_43 rfl ?_
    refine pr_ias tX8_begin_44 c rfl rfl (by omega) (by decide) ?_
    obtain ⟨σ6, eσ6⟩ : ∃ z : pST, z = (pm_ui σ5.1 17 c (nI 0), σ5.2) := ⟨_, rfl⟩
    rw [← eσ6]
    refine pr_iconst (v := nI 0) tX8_begin_45 rfl ?_
    refine pr_istore_n (L' := [(2, .inl (nI 0)), (0, .inr (.inr 0)), (1, .inl (nI c))]) tX8_begin_46 (by decide) rfl ?_
    refine pR_sub (L' := [(2, .inl (nI 0)), (1, .inl (nI c)), (0, .inr (.inr 0))]) [0, 2, 1] rfl ?_
    have h9 := lp1_X8_begin σ6 hc 4 0 (by omega)
    rw [rngJ_0] at h9
    refine pR_post (fun x hx => ?_) h9
    rw [hx]
    unfold begM
    rw [eσ6, eσ5, eσ4, eσ3, eσ2, eσ1]
    try rfl
  obtain ⟨x, h1, h2⟩ := key
  rw [h1, h2]

/-- what see(c, k) leaves, with the first j calls looked at -/
def seeS (σ : pST) (k : Nat) : Nat → pST
  | 0 => (pm_ui (pm_ui (pm_ui σ.1 0 27 (-1)) 0 28 0) 0 29 0, pm_uj σ.2 0 30 (σ.2 1 k))
  | j + 1 => if σ.1 21 (32 * j + k) = 0 then seeS σ k j else (pm_ui (pm_ui (pm_ui (seeS σ k j).1 0 27 (nI j)) 0 28 (σ.1 24 (32 * j + k))) 0 29 (σ.1 22 (32 * j + k)), pm_uj (seeS σ k j).2 0 30 (σ.2 23 (32 * j + k)))
theorem seeS_o {σ : pST} {k x : Nat} (hx : x ≠ 0) : ∀ j, (seeS σ k j).1 x = σ.1 x ∧ (seeS σ k j).2 x = σ.2 x
  | 0 => by
    show pm_ui (pm_ui (pm_ui σ.1 0 27 (-1)) 0 28 0) 0 29 0 x = σ.1 x ∧ pm_uj σ.2 0 30 (σ.2 1 k) x = σ.2 x
    rw [pm_ui_n hx, pm_ui_n hx, pm_ui_n hx, pm_uj_n hx]
    exact ⟨rfl, rfl⟩
  | j + 1 => by
    unfold seeS
    split
    · exact seeS_o hx j
    · obtain ⟨h1, h2⟩ := seeS_o (σ := σ) (k := k) hx j
      exact ⟨((pm_ui_n hx).trans ((pm_ui_n hx).trans (pm_ui_n hx))).trans h1, (pm_uj_n hx).trans h2⟩

set_option maxRecDepth 100000 in
theorem lp_X8_see (σ : pST) {c k : Nat} (hc : c ≤ 16) (hk : k < 32) (hb : ∀ y, σ.1 22 y = 0 ∨ σ.1 22 y = 1) : ∀ (m i : Nat), i + m = c → pR shM tX8_see fX8_see qX8_see lX8_see 5 0 (fun x => x = (seeS σ k c, none)) 27 [(3, .inl (nI i)), (1, .inl (nI c)), (2, .inl (nI k)), (0, .inr (.inr 0))] [] (seeS σ k i) := by
  intro m
  induction m with
  | zero =>
    intro i hi
    refine pr_iload_n tX8_see_27 0 rfl ?_
    refine pr_iload_n tX8_see_28 1 rfl ?_
    refine pr_ic_ge (pc' := 94) tX8_see_29 rfl (fun hc29 => ?_) (fun hc29 => ?_)
    · skip
      have hc29 : c ≤ i := (nI_leI (by omega) (by omega)).mp hc29
      refine pr_ret tX8_see_94 rfl ?_
      rw [show i = c by omega]
    · skip
      exact absurd ((nI_leI (by omega) (by omega)).mpr (by omega)) hc29
  | succ m ih =>
    intro i hi
    refine pr_iload_n tX8_see_27 0 rfl ?_
    refine pr_iload_n tX8_see_28 1 rfl ?_
    refine pr_ic_ge (pc' := 94) tX8_see_29 rfl (fun hc29 => ?_) (fun hc29 => ?_)
    · skip
      exact absurd ((nI_leI (by omega) (by omega)).mp hc29) (by omega)
    · skip
      have hc29 : ¬ c ≤ i := fun z9 => hc29 ((nI_leI (by omega) (by omega)).mpr z9)
      refine pr_bipush (v := nI 32) tX8_see_32 rfl ?_
      refine pr_iload_n tX8_see_34 0 rfl ?_
      refine pr_imul (v := (nI (32 * i))) tX8_see_35 (pk_mul _ _) ?_
      refine pr_iload_n tX8_see_36 2 rfl ?_
      refine pr_iadd (v := (nI (32 * i + k))) tX8_see_37 (nI_add _ _) ?_
      refine pr_istore (L' := [(4, .inl (nI (32 * i + k))), (3, .inl (nI i)), (1, .inl (nI c)), (2, .inl (nI k)), (0, .inr (.inr 0))]) tX8_see_38 (by decide) rfl ?_
      refine pr_aload_n tX8_see_40 4 rfl ?_
      refine pr_geta (j := 21) tX8_see_41 rfl rfl rfl rfl ?_
      refine pr_iload tX8_see_44 0 rfl ?_
      refine pr_zal tX8_see_46 (32 * i + k) rfl rfl (by omega) (by decide) ?_
      refine pR_topi (y := (σ.1 21 (32 * i + k))) (by simp [pm_ui, pm_uj, upd, vp_updL, (seeS_o (σ := σ) (k := k) (show 21 ≠ 0 by decide) i).1]) ?_
      refine pr_if_eq (pc' := 88) tX8_see_47 rfl (fun hc47 => ?_) (fun hc47 => ?_)
      · skip
        have hz := hc47
        refine pr_iinc (v := (nI (i + 1))) (L' := [(3, .inl (nI (i + 1))), (4, .inl (nI (32 * i + k))), (1, .inl (nI c)), (2, .inl (nI k)), (0, .inr (.inr 0))]) tX8_see_88 1 rfl (nI_1 _) (by decide) rfl ?_
        refine pr_goto (pc' := 27) tX8_see_91 rfl ?_
        refine pR_sub (L' := [(3, .inl (nI (i + 1))), (1, .inl (nI c)), (2, .inl (nI k)), (0, .inr (.inr 0))]) [0, 2, 3, 4] rfl ?_
        rw [show seeS σ k i = seeS σ k (i + 1) from (if_pos hz).symm]
        exact ih (i + 1) (by omega)
      · skip
        have hz := hc47
        refine pr_aload_n tX8_see_50 4 rfl ?_
        refine pr_iload_n tX8_see_51 1 rfl ?_
        refine pr_put0 tX8_see_52 rfl rfl rfl ?_
        obtain ⟨σ1, eσ1⟩ : ∃ z : pST, z = (pm_ui (seeS σ k i).1 0 27 (nI i), (seeS σ k i).2) := ⟨_, rfl⟩
        rw [← eσ1]
        refine pr_aload_n tX8_see_55 4 rfl ?_
        refine pr_aload_n tX8_see_56 4 rfl ?_
        refine pr_geta (j := 24) tX8_see_57 rfl rfl rfl rfl ?_
        refine pr_iload tX8_see_60 0 rfl ?_
        refine pr_ial tX8_see_62 (32 * i + k) rfl rfl (by omega) (by decide) ?_
        refine pR_topi (y := (σ.1 24 (32 * i + k))) (by simp [eσ1, pm_ui, pm_uj, upd, vp_updL, (seeS_o (σ := σ) (k := k) (show 24 ≠ 0 by decide) i).1]) ?_
        refine pr_put0 tX8_see_63 rfl rfl rfl ?_
        obtain ⟨σ2, eσ2⟩ : ∃ z : pST, z = (pm_ui σ1.1 0 28 (σ.1 24 (32 * i + k)), σ1.2) := ⟨_, rfl⟩
        rw [← eσ2]
        refine pr_aload_n tX8_see_66 4 rfl ?_
        refine pr_aload_n tX8_see_67 4 rfl ?_
        refine pr_geta (j := 22) tX8_see_68 rfl rfl rfl rfl ?_
        refine pr_iload tX8_see_71 0 rfl ?_
        refine pr_zal tX8_see_73 (32 * i + k) rfl rfl (by omega) (by decide) ?_
        refine pR_topi (y := (σ.1 22 (32 * i + k))) (by simp [eσ1, eσ2, pm_ui, pm_uj, upd, vp_updL, (seeS_o (σ := σ) (k := k) (show 22 ≠ 0 by decide) i).1]) ?_
        refine pr_put1 tX8_see_74 rfl rfl rfl (hb (32 * i + k)) ?_
        obtain ⟨σ3, eσ3⟩ : ∃ z : pST, z = (pm_ui σ2.1 0 29 (σ.1 22 (32 * i + k)), σ2.2) := ⟨_, rfl⟩
        rw [← eσ3]
        refine pr_aload_n tX8_see_77 4 rfl ?_
        refine pr_aload_n tX8_see_78 4 rfl ?_
        refine pr_geta (j := 23) tX8_see_79 rfl rfl rfl rfl ?_
        refine pr_iload tX8_see_82 0 rfl ?_
        refine pr_lal tX8_see_84 (32 * i + k) rfl rfl (by omega) (by decide) ?_
        refine pR_topl (y := σ.2 23 (32 * i + k)) (by simp [eσ1, eσ2, eσ3, pm_ui, pm_uj, upd, vp_updL, (seeS_o (σ := σ) (k := k) (show 23 ≠ 0 by decide) i).2]) ?_
        refine pr_put2 tX8_see_85 rfl rfl rfl ?_
        obtain ⟨σ4, eσ4⟩ : ∃ z : pST, z = (σ3.1, pm_uj σ3.2 0 30 (σ.2 23 (32 * i + k))) := ⟨_, rfl⟩
        rw [← eσ4]
        refine pr_iinc (v := (nI (i + 1))) (L' := [(3, .inl (nI (i + 1))), (4, .inl (nI (32 * i + k))), (1, .inl (nI c)), (2, .inl (nI k)), (0, .inr (.inr 0))]) tX8_see_88 1 rfl (nI_1 _) (by decide) rfl ?_
        refine pr_goto (pc' := 27) tX8_see_91 rfl ?_
        refine pR_sub (L' := [(3, .inl (nI (i + 1))), (1, .inl (nI c)), (2, .inl (nI k)), (0, .inr (.inr 0))]) [0, 2, 3, 4] rfl ?_
        rw [eσ4, eσ3, eσ2, eσ1]
        rw [show ((pm_ui (pm_ui (pm_ui (seeS σ k i).1 0 27 (nI i)) 0 28 (σ.1 24 (32 * i + k))) 0 29 (σ.1 22 (32 * i + k)), pm_uj (seeS σ k i).2 0 30 (σ.2 23 (32 * i + k))) : pST) = seeS σ k (i + 1) from (if_neg hz).symm]
        exact ih (i + 1) (by omega)

set_option maxRecDepth 100000 in
theorem ev_X8_see (σ : pST) {c k : Nat} (hc : c ≤ 16) (hk : k < 32) (hb : ∀ y, σ.1 22 y = 0 ∨ σ.1 22 y = 1) : kX8_see σ [.inr (.inr 0), .inl (nI c), .inl (nI k)] = some ((seeS σ k c, none)) := by
  have key : ∃ x, kX8_see σ [.inr (.inr 0), .inl (nI c), .inl (nI k)] = some x ∧ x = (seeS σ k c, none) := by
    refine pR_met (post := fun x => x = (seeS σ k c, none)) rfl (Nat.le_of_ble_eq_true rfl) ?_
    show pR _ _ _ _ _ _ _ _ 0 [(0, .inr (.inr 0)), (1, .inl (nI c)), (2, .inl (nI k))] [] σ
    refine pr_aload_n tX8_see_0 0 rfl ?_
    refine pr_iconst (v := -1) tX8_see_1 rfl ?_
    refine pr_put0 tX8_see_2 rfl rfl rfl ?_
    obtain ⟨σ1, eσ1⟩ : ∃ z : pST, z = (pm_ui σ.1 0 27 (-1), σ.2) := ⟨_, rfl⟩
    rw [← eσ1]
    refine pr_aload_n tX8_see_5 0 rfl ?_
    refine pr_iconst (v := nI 0) tX8_see_6 rfl ?_
    refine pr_put0 tX8_see_7 rfl rfl rfl ?_
    obtain ⟨σ2, eσ2⟩ : ∃ z : pST, z = (pm_ui σ1.1 0 28 (nI 0), σ1.2) := ⟨_, rfl⟩
    rw [← eσ2]
    refine pr_aload_n tX8_see_10 0 rfl ?_
    refine pr_iconst (v := nI 0) tX8_see_11 rfl ?_
    refine pr_put1 tX8_see_12 rfl rfl rfl (by decide) ?_
    obtain ⟨σ3, eσ3⟩ : ∃ z : pST, z = (pm_ui σ2.1 0 29 (nI 0), σ2.2) := ⟨_, rfl⟩
    rw [← eσ3]
    refine pr_aload_n tX8_see_15 0 rfl ?_
    refine pr_aload_n tX8_see_16 0 rfl ?_
    refine pr_geta (j := 1) tX8_see_17 rfl rfl rfl rfl ?_
    refine pr_iload_n tX8_see_20 2 rfl ?_
    refine pr_lal tX8_see_21 k rfl rfl (by omega) (by decide) ?_
    refine pR_topl (y := σ.2 1 k) (by simp [eσ1, eσ2, eσ3, pm_ui, pm_uj, upd, vp_updL]) ?_
    refine pr_put2 tX8_see_22 rfl rfl rfl ?_
    obtain ⟨σ4, eσ4⟩ : ∃ z : pST, z = (σ3.1, pm_uj σ3.2 0 30 (σ.2 1 k)) := ⟨_, rfl⟩
    rw [← eσ4]
    refine pr_iconst (v := nI 0) tX8_see_25 rfl ?_
    refine pr_istore_n (L' := [(3, .inl (nI 0)), (0, .inr (.inr 0)), (1, .inl (nI c)), (2, .inl (nI k))]) tX8_see_26 (by decide) rfl ?_
    refine pR_sub (L' := [(3, .inl (nI 0)), (1, .inl (nI c)), (2, .inl (nI k)), (0, .inr (.inr 0))]) [0, 2, 3, 1] rfl ?_
    rw [eσ4, eσ3, eσ2, eσ1]
    exact lp_X8_see σ hc hk hb c 0 (by omega)
  obtain ⟨x, h1, h2⟩ := key
  rw [h1, h2]
