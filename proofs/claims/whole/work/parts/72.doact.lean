/-! ===== the reference: one act ===== -/
theorem leafM (v : Int64) : (if 0 ≤ (v - v / 32 * 32).toInt32 then (v - v / 32 * 32).toInt32 else (v - v / 32 * 32).toInt32 + nI 32) = nI (lfA v) := by
  have hd : (v / 32).toInt = v.toInt.tdiv 32 := by
    rw [Int64.toInt_div_of_ne_right _ _ (by decide)]
    rfl
  have hb1 := Int64.le_toInt v
  have hb2 := Int64.toInt_lt v
  have hm : v.toInt.tdiv 32 * 32 + v.toInt.tmod 32 = v.toInt ∧ (0 ≤ v.toInt → 0 ≤ v.toInt.tmod 32 ∧ v.toInt.tmod 32 < 32) ∧ (v.toInt < 0 → -32 < v.toInt.tmod 32 ∧ v.toInt.tmod 32 ≤ 0) := by
    by_cases hs : 0 ≤ v.toInt
    · rw [Int.tdiv_eq_ediv_of_nonneg hs, Int.tmod_eq_emod_of_nonneg hs]
      omega
    · obtain ⟨u, hu⟩ : ∃ u : Int, v.toInt = -u := ⟨-v.toInt, by omega⟩
      rw [hu, Int.neg_tdiv, Int.neg_tmod, Int.tdiv_eq_ediv_of_nonneg (by omega), Int.tmod_eq_emod_of_nonneg (by omega)]
      omega
  obtain ⟨hm1, hm2, hm3⟩ := hm
  generalize v.toInt.tdiv 32 = dq at *
  generalize v.toInt.tmod 32 = mq at *
  have h2 : (v / 32 * 32).toInt = dq * 32 := by
    rw [Int64.toInt_mul, hd]
    show (dq * 32).bmod (2 ^ 64) = _
    exact Int.bmod_eq_of_le (by omega) (by omega)
  have h3 : (v - v / 32 * 32).toInt = mq := by
    rw [Int64.toInt_sub, h2]
    rw [show v.toInt - dq * 32 = mq by omega]
    exact Int.bmod_eq_of_le (by omega) (by omega)
  have h4 : (v - v / 32 * 32).toInt32.toInt = mq := by
    rw [Int64.toInt_toInt32, h3]
    exact Int.bmod_eq_of_le (by omega) (by omega)
  have h5 : ((v.toBitVec.toNat % 32 : Nat) : Int) = v.toInt % 32 := by
    have e : v.toInt = v.toBitVec.toInt := rfl
    rw [e, BitVec.toInt_eq_toNat_cond]
    split <;> omega
  have hl : lfA v < 32 := lfA_l v
  have h6 : (nI (lfA v)).toInt = v.toInt % 32 := by
    rw [nI_toInt (by omega)]
    exact h5
  by_cases h : 0 ≤ (v - v / 32 * 32).toInt32
  · rw [if_pos h]
    apply Int32.toInt_inj.mp
    have h7 := Int32.le_iff_toInt_le.mp h
    rw [h4] at h7
    rw [h4, h6]
    have h8 : (0 : Int) ≤ mq := h7
    omega
  · rw [if_neg h]
    apply Int32.toInt_inj.mp
    have h7 : ¬ (0 : Int) ≤ mq := fun z => h (Int32.le_iff_toInt_le.mpr (by rw [h4]; exact z))
    rw [Int32.toInt_add, h4, h6, nI_toInt (by decide)]
    rw [show mq + ((32 : Nat) : Int) = v.toInt % 32 by omega]
    exact Int.bmod_eq_of_le (by omega) (by omega)

/-- the end of doAct -/
def finM (τ : pST) (c : Nat) : pST :=
  (pm_ui (pm_ui (pm_ui τ.1 7 c (τ.1 7 c + 1)) 20 c (pm_ui τ.1 7 c (τ.1 7 c + 1) 20 c + 1)) 0 22 (pm_ui (pm_ui τ.1 7 c (τ.1 7 c + 1)) 20 c (pm_ui τ.1 7 c (τ.1 7 c + 1) 20 c + 1) 0 22 + 1), τ.2)

set_option maxRecDepth 100000 in
theorem lp_fin (τ : pST) {c : Nat} (hc : c < 16) : pR shM tX8_doAct fX8_doAct qX8_doAct lX8_doAct 8 1 (fun x => x = (finM τ c, some (.inl (-1)))) 533 [(1, .inl (nI c)), (0, .inr (.inr 0))] [] τ := by
  refine pr_aload_n tX8_doAct_533 1 rfl ?_
  refine pr_geta (j := 7) tX8_doAct_534 rfl rfl rfl rfl ?_
  refine pr_iload_n tX8_doAct_537 0 rfl ?_
  refine pr_dup2 tX8_doAct_538 ⟨rfl, rfl⟩ ?_
  refine pr_ial tX8_doAct_539 c rfl rfl (by omega) (by decide) ?_
  refine pr_iconst (v := nI 1) tX8_doAct_540 rfl ?_
  refine pr_iadd (v := ((τ.1 7 c) + (nI 1))) tX8_doAct_541 (rfl) ?_
  refine pr_ias tX8_doAct_542 c rfl rfl (by omega) (by decide) ?_
  obtain ⟨σ1, eσ1⟩ : ∃ z : pST, z = (pm_ui τ.1 7 c ((τ.1 7 c) + (nI 1)), τ.2) := ⟨_, rfl⟩
  rw [← eσ1]
  refine pr_aload_n tX8_doAct_543 1 rfl ?_
  refine pr_geta (j := 20) tX8_doAct_544 rfl rfl rfl rfl ?_
  refine pr_iload_n tX8_doAct_547 0 rfl ?_
  refine pr_dup2 tX8_doAct_548 ⟨rfl, rfl⟩ ?_
  refine pr_ial tX8_doAct_549 c rfl rfl (by omega) (by decide) ?_
  refine pr_iconst (v := nI 1) tX8_doAct_550 rfl ?_
  refine pr_iadd (v := ((σ1.1 20 c) + (nI 1))) tX8_doAct_551 (rfl) ?_
  refine pr_ias tX8_doAct_552 c rfl rfl (by omega) (by decide) ?_
  obtain ⟨σ2, eσ2⟩ : ∃ z : pST, z = (pm_ui σ1.1 20 c ((σ1.1 20 c) + (nI 1)), σ1.2) := ⟨_, rfl⟩
  rw [← eσ2]
  refine pr_aload_n tX8_doAct_553 1 rfl ?_
  refine pr_dup tX8_doAct_554 rfl ?_
  refine pr_get0 tX8_doAct_555 rfl rfl rfl ?_
  refine pr_iconst (v := nI 1) tX8_doAct_558 rfl ?_
  refine pr_iadd (v := ((σ2.1 0 22) + (nI 1))) tX8_doAct_559 (rfl) ?_
  refine pr_put0 tX8_doAct_560 rfl rfl rfl ?_
  obtain ⟨σ3, eσ3⟩ : ∃ z : pST, z = (pm_ui σ2.1 0 22 ((σ2.1 0 22) + (nI 1)), σ2.2) := ⟨_, rfl⟩
  rw [← eσ3]
  refine pr_iconst (v := -1) tX8_doAct_563 rfl ?_
  refine pr_iret tX8_doAct_564 rfl ?_
  rw [eσ3, eσ2, eσ1]
  rfl

set_option maxRecDepth 100000 in
theorem ev_X8_doAct_0 (σ : pST) {c p : Nat} (hc : c < 16) (hp : σ.1 7 c = nI p) (hpl : p < 12) {r s : Nat} (hr : r < 4) (hs : s < 4) (h4 : σ.1 4 (12 * c + p) = nI r) (h5 : σ.1 5 (12 * c + p) = nI s) (h3 : σ.1 3 (12 * c + p) = nI 0) : kX8_doAct σ [.inr (.inr 0), .inl (nI c)] = some ((finM (σ.1, pm_uj (σ.2) 8 (4 * c + r) (σ.2 6 (12 * c + p))) c, some (.inl (-1)))) := by
  have key : ∃ x, kX8_doAct σ [.inr (.inr 0), .inl (nI c)] = some x ∧ x = (finM (σ.1, pm_uj (σ.2) 8 (4 * c + r) (σ.2 6 (12 * c + p))) c, some (.inl (-1))) := by
    refine pR_met (post := fun x => x = (finM (σ.1, pm_uj (σ.2) 8 (4 * c + r) (σ.2 6 (12 * c + p))) c, some (.inl (-1)))) rfl (Nat.le_of_ble_eq_true rfl) ?_
    show pR _ _ _ _ _ _ _ _ 0 [(0, .inr (.inr 0)), (1, .inl (nI c))] [] σ
    refine pr_bipush (v := nI 12) tX8_doAct_0 rfl ?_
    refine pr_iload_n tX8_doAct_2 1 rfl ?_
    refine pr_imul (v := (nI (12 * c))) tX8_doAct_3 (pk_mul _ _) ?_
    refine pr_aload_n tX8_doAct_4 0 rfl ?_
    refine pr_geta (j := 7) tX8_doAct_5 rfl rfl rfl rfl ?_
    refine pr_iload_n tX8_doAct_8 1 rfl ?_
    refine pr_ial tX8_doAct_9 c rfl rfl (by omega) (by decide) ?_
    refine pR_topi (y := (nI p)) (by simp [pm_ui, pm_uj, upd, vp_updL, hp]) ?_
    refine pr_iadd (v := (nI (12 * c + p))) tX8_doAct_10 (nI_add _ _) ?_
    refine pr_istore_n (L' := [(2, .inl (nI (12 * c + p))), (0, .inr (.inr 0)), (1, .inl (nI c))]) tX8_doAct_11 (by decide) rfl ?_
    refine pr_iconst (v := nI 4) tX8_doAct_12 rfl ?_
    refine pr_iload_n tX8_doAct_13 2 rfl ?_
    refine pr_imul (v := (nI (4 * c))) tX8_doAct_14 (pk_mul _ _) ?_
    refine pr_aload_n tX8_doAct_15 1 rfl ?_
    refine pr_geta (j := 4) tX8_doAct_16 rfl rfl rfl rfl ?_
    refine pr_iload_n tX8_doAct_19 0 rfl ?_
    refine pr_ial tX8_doAct_20 (12 * c + p) rfl rfl (by omega) (by decide) ?_
    refine pR_topi (y := (nI r)) (by simp [pm_ui, pm_uj, upd, vp_updL, h4]) ?_
    refine pr_iadd (v := (nI (4 * c + r))) tX8_doAct_21 (nI_add _ _) ?_
    refine pr_istore_n (L' := [(3, .inl (nI (4 * c + r))), (2, .inl (nI (12 * c + p))), (0, .inr (.inr 0)), (1, .inl (nI c))]) tX8_doAct_22 (by decide) rfl ?_
    refine pr_iconst (v := nI 4) tX8_doAct_23 rfl ?_
    refine pr_iload_n tX8_doAct_24 3 rfl ?_
    refine pr_imul (v := (nI (4 * c))) tX8_doAct_25 (pk_mul _ _) ?_
    refine pr_aload_n tX8_doAct_26 2 rfl ?_
    refine pr_geta (j := 5) tX8_doAct_27 rfl rfl rfl rfl ?_
    refine pr_iload_n tX8_doAct_30 1 rfl ?_
    refine pr_ial tX8_doAct_31 (12 * c + p) rfl rfl (by omega) (by decide) ?_
    refine pR_topi (y := (nI s)) (by simp [pm_ui, pm_uj, upd, vp_updL, h5]) ?_
    refine pr_iadd (v := (nI (4 * c + s))) tX8_doAct_32 (nI_add _ _) ?_
    refine pr_istore (L' := [(4, .inl (nI (4 * c + s))), (3, .inl (nI (4 * c + r))), (2, .inl (nI (12 * c + p))), (0, .inr (.inr 0)), (1, .inl (nI c))]) tX8_doAct_33 (by decide) rfl ?_
    refine pr_aload_n tX8_doAct_35 3 rfl ?_
    refine pr_geta (j := 3) tX8_doAct_36 rfl rfl rfl rfl ?_
    refine pr_iload_n tX8_doAct_39 2 rfl ?_
    refine pr_ial tX8_doAct_40 (12 * c + p) rfl rfl (by omega) (by decide) ?_
    refine pR_topi (y := (nI 0)) (by simp [pm_ui, pm_uj, upd, vp_updL, h3]) ?_
    refine pr_istore (L' := [(5, .inl (nI 0)), (4, .inl (nI (4 * c + s))), (3, .inl (nI (4 * c + r))), (2, .inl (nI (12 * c + p))), (0, .inr (.inr 0)), (1, .inl (nI c))]) tX8_doAct_41 (by decide) rfl ?_
    refine pr_iload tX8_doAct_43 0 rfl ?_
    refine pr_iconst (v := nI 1) tX8_doAct_45 rfl ?_
    refine pr_ic_ne (pc' := 264) tX8_doAct_46 rfl (fun hc46 => ?_) (fun hc46 => ?_)
    · skip
      refine pr_iload tX8_doAct_264 0 rfl ?_
      refine pr_if_ne (pc' := 284) tX8_doAct_266 rfl (fun hc266 => ?_) (fun hc266 => ?_)
      · skip
        exact absurd hc266 (by decide)
      · skip
        refine pr_aload_n tX8_doAct_269 4 rfl ?_
        refine pr_geta (j := 8) tX8_doAct_270 rfl rfl rfl rfl ?_
        refine pr_iload_n tX8_doAct_273 2 rfl ?_
        refine pr_aload_n tX8_doAct_274 4 rfl ?_
        refine pr_geta (j := 6) tX8_doAct_275 rfl rfl rfl rfl ?_
        refine pr_iload_n tX8_doAct_278 3 rfl ?_
        refine pr_lal tX8_doAct_279 (12 * c + p) rfl rfl (by omega) (by decide) ?_
        refine pr_las tX8_doAct_280 (4 * c + r) rfl rfl (by omega) (by decide) ?_
        obtain ⟨σ1, eσ1⟩ : ∃ z : pST, z = (σ.1, pm_uj σ.2 8 (4 * c + r) (σ.2 6 (12 * c + p))) := ⟨_, rfl⟩
        rw [← eσ1]
        refine pr_goto (pc' := 533) tX8_doAct_281 rfl ?_
        refine pR_sub (L' := [(1, .inl (nI c)), (0, .inr (.inr 0))]) [5, 4] rfl ?_
        rw [eσ1]
        refine pR_post (fun x hx => ?_) (lp_fin _ hc)
        rw [hx]
    · skip
      exact absurd (by decide) hc46
  obtain ⟨x, h1, h2⟩ := key
  rw [h1, h2]

set_option maxRecDepth 100000 in
theorem ev_X8_doAct_2 (σ : pST) {c p : Nat} (hc : c < 16) (hp : σ.1 7 c = nI p) (hpl : p < 12) {r s : Nat} (hr : r < 4) (hs : s < 4) (h4 : σ.1 4 (12 * c + p) = nI r) (h5 : σ.1 5 (12 * c + p) = nI s) (h3 : σ.1 3 (12 * c + p) = nI 2) {l : Nat} (hl : l < 32) (hlf : lfA (σ.2 6 (12 * c + p) + σ.2 8 (4 * c + s)) = l) : kX8_doAct σ [.inr (.inr 0), .inl (nI c)] = some ((finM (pm_ui (σ.1) 10 (32 * c + l) (nI 1), pm_uj (σ.2) 11 (32 * c + l) (σ.2 8 (4 * c + r))) c, some (.inl (-1)))) := by
  have key : ∃ x, kX8_doAct σ [.inr (.inr 0), .inl (nI c)] = some x ∧ x = (finM (pm_ui (σ.1) 10 (32 * c + l) (nI 1), pm_uj (σ.2) 11 (32 * c + l) (σ.2 8 (4 * c + r))) c, some (.inl (-1))) := by
    refine pR_met (post := fun x => x = (finM (pm_ui (σ.1) 10 (32 * c + l) (nI 1), pm_uj (σ.2) 11 (32 * c + l) (σ.2 8 (4 * c + r))) c, some (.inl (-1)))) rfl (Nat.le_of_ble_eq_true rfl) ?_
    show pR _ _ _ _ _ _ _ _ 0 [(0, .inr (.inr 0)), (1, .inl (nI c))] [] σ
    refine pr_bipush (v := nI 12) tX8_doAct_0 rfl ?_
    refine pr_iload_n tX8_doAct_2 1 rfl ?_
    refine pr_imul (v := (nI (12 * c))) tX8_doAct_3 (pk_mul _ _) ?_
    refine pr_aload_n tX8_doAct_4 0 rfl ?_
    refine pr_geta (j := 7) tX8_doAct_5 rfl rfl rfl rfl ?_
    refine pr_iload_n tX8_doAct_8 1 rfl ?_
    refine pr_ial tX8_doAct_9 c rfl rfl (by omega) (by decide) ?_
    refine pR_topi (y := (nI p)) (by simp [pm_ui, pm_uj, upd, vp_updL, hp]) ?_
    refine pr_iadd (v := (nI (12 * c + p))) tX8_doAct_10 (nI_add _ _) ?_
    refine pr_istore_n (L' := [(2, .inl (nI (12 * c + p))), (0, .inr (.inr 0)), (1, .inl (nI c))]) tX8_doAct_11 (by decide) rfl ?_
    refine pr_iconst (v := nI 4) tX8_doAct_12 rfl ?_
    refine pr_iload_n tX8_doAct_13 2 rfl ?_
    refine pr_imul (v := (nI (4 * c))) tX8_doAct_14 (pk_mul _ _) ?_
    refine pr_aload_n tX8_doAct_15 1 rfl ?_
    refine pr_geta (j := 4) tX8_doAct_16 rfl rfl rfl rfl ?_
    refine pr_iload_n tX8_doAct_19 0 rfl ?_
    refine pr_ial tX8_doAct_20 (12 * c + p) rfl rfl (by omega) (by decide) ?_
    refine pR_topi (y := (nI r)) (by simp [pm_ui, pm_uj, upd, vp_updL, h4]) ?_
    refine pr_iadd (v := (nI (4 * c + r))) tX8_doAct_21 (nI_add _ _) ?_
    refine pr_istore_n (L' := [(3, .inl (nI (4 * c + r))), (2, .inl (nI (12 * c + p))), (0, .inr (.inr 0)), (1, .inl (nI c))]) tX8_doAct_22 (by decide) rfl ?_
    refine pr_iconst (v := nI 4) tX8_doAct_23 rfl ?_
    refine pr_iload_n tX8_doAct_24 3 rfl ?_
    refine pr_imul (v := (nI (4 * c))) tX8_doAct_25 (pk_mul _ _) ?_
    refine pr_aload_n tX8_doAct_26 2 rfl ?_
    refine pr_geta (j := 5) tX8_doAct_27 rfl rfl rfl rfl ?_
    refine pr_iload_n tX8_doAct_30 1 rfl ?_
    refine pr_ial tX8_doAct_31 (12 * c + p) rfl rfl (by omega) (by decide) ?_
    refine pR_topi (y := (nI s)) (by simp [pm_ui, pm_uj, upd, vp_updL, h5]) ?_
    refine pr_iadd (v := (nI (4 * c + s))) tX8_doAct_32 (nI_add _ _) ?_
    refine pr_istore (L' := [(4, .inl (nI (4 * c + s))), (3, .inl (nI (4 * c + r))), (2, .inl (nI (12 * c + p))), (0, .inr (.inr 0)), (1, .inl (nI c))]) tX8_doAct_33 (by decide) rfl ?_
    refine pr_aload_n tX8_doAct_35 3 rfl ?_
    refine pr_geta (j := 3) tX8_doAct_36 rfl rfl rfl rfl ?_
    refine pr_iload_n tX8_doAct_39 2 rfl ?_
    refine pr_ial tX8_doAct_40 (12 * c + p) rfl rfl (by omega) (by decide) ?_
    refine pR_topi (y := (nI 2)) (by simp [pm_ui, pm_uj, upd, vp_updL, h3]) ?_
    refine pr_istore (L' := [(5, .inl (nI 2)), (4, .inl (nI (4 * c + s))), (3, .inl (nI (4 * c + r))), (2, .inl (nI (12 * c + p))), (0, .inr (.inr 0)), (1, .inl (nI c))]) tX8_doAct_41 (by decide) rfl ?_
    refine pr_iload tX8_doAct_43 0 rfl ?_
    refine pr_iconst (v := nI 1) tX8_doAct_45 rfl ?_
    refine pr_ic_ne (pc' := 264) tX8_doAct_46 rfl (fun hc46 => ?_) (fun hc46 => ?_)
    · skip
      refine pr_iload tX8_doAct_264 0 rfl ?_
      refine pr_if_ne (pc' := 284) tX8_doAct_266 rfl (fun hc266 => ?_) (fun hc266 => ?_)
      · skip
        refine pr_iload tX8_doAct_284 0 rfl ?_
        refine pr_iconst (v := nI 2) tX8_doAct_286 rfl ?_
        refine pr_ic_ne (pc' := 343) tX8_doAct_287 rfl (fun hc287 => ?_) (fun hc287 => ?_)
        · skip
          exact absurd hc287 (by decide)
        · skip
          refine pr_aload_n tX8_doAct_290 4 rfl ?_
          refine pr_geta (j := 6) tX8_doAct_291 rfl rfl rfl rfl ?_
          refine pr_iload_n tX8_doAct_294 3 rfl ?_
          refine pr_lal tX8_doAct_295 (12 * c + p) rfl rfl (by omega) (by decide) ?_
          refine pr_aload_n tX8_doAct_296 4 rfl ?_
          refine pr_geta (j := 8) tX8_doAct_297 rfl rfl rfl rfl ?_
          refine pr_iload tX8_doAct_300 1 rfl ?_
          refine pr_lal tX8_doAct_302 (4 * c + s) rfl rfl (by omega) (by decide) ?_
          refine pr_ladd (v := ((σ.2 6 (12 * c + p)) + (σ.2 8 (4 * c + s)))) tX8_doAct_303 (rfl) ?_
          refine pr_callS tX8_doAct_304 rfl ⟨Nat.le_of_ble_eq_true rfl, Nat.le_of_ble_eq_true rfl, rfl⟩ ((ev_X8_leafOf _ _).trans (by rw [leafM, hlf])) ?_
          refine pR_eq (st' := [.inl (nI l)]) rfl rfl ?_
          refine pr_istore (L' := [(6, .inl (nI l)), (5, .inl (nI 2)), (4, .inl (nI (4 * c + s))), (3, .inl (nI (4 * c + r))), (2, .inl (nI (12 * c + p))), (0, .inr (.inr 0)), (1, .inl (nI c))]) tX8_doAct_307 (by decide) rfl ?_
          refine pr_aload_n tX8_doAct_309 5 rfl ?_
          refine pr_geta (j := 10) tX8_doAct_310 rfl rfl rfl rfl ?_
          refine pr_bipush (v := nI 32) tX8_doAct_313 rfl ?_
          refine pr_iload_n tX8_doAct_315 6 rfl ?_
          refine pr_imul (v := (nI (32 * c))) tX8_doAct_316 (pk_mul _ _) ?_
          refine pr_iload tX8_doAct_317 0 rfl ?_
          refine pr_iadd (v := (nI (32 * c + l))) tX8_doAct_319 (nI_add _ _) ?_
          refine pr_iconst (v := nI 1) tX8_doAct_320 rfl ?_
          refine pr_zas tX8_doAct_321 (32 * c + l) rfl rfl (by omega) (by decide) (by decide) ?_
          obtain ⟨σ1, eσ1⟩ : ∃ z : pST, z = (pm_ui σ.1 10 (32 * c + l) (nI 1), σ.2) := ⟨_, rfl⟩
          rw [← eσ1]
          refine pr_aload_n tX8_doAct_322 5 rfl ?_
          refine pr_geta (j := 11) tX8_doAct_323 rfl rfl rfl rfl ?_
          refine pr_bipush (v := nI 32) tX8_doAct_326 rfl ?_
          refine pr_iload_n tX8_doAct_328 6 rfl ?_
          refine pr_imul (v := (nI (32 * c))) tX8_doAct_329 (pk_mul _ _) ?_
          refine pr_iload tX8_doAct_330 0 rfl ?_
          refine pr_iadd (v := (nI (32 * c + l))) tX8_doAct_332 (nI_add _ _) ?_
          refine pr_aload_n tX8_doAct_333 5 rfl ?_
          refine pr_geta (j := 8) tX8_doAct_334 rfl rfl rfl rfl ?_
          refine pr_iload_n tX8_doAct_337 3 rfl ?_
          refine pr_lal tX8_doAct_338 (4 * c + r) rfl rfl (by omega) (by decide) ?_
          refine pr_las tX8_doAct_339 (32 * c + l) rfl rfl (by omega) (by decide) ?_
          obtain ⟨σ2, eσ2⟩ : ∃ z : pST, z = (σ1.1, pm_uj σ1.2 11 (32 * c + l) (σ1.2 8 (4 * c + r))) := ⟨_, rfl⟩
          rw [← eσ2]
          refine pr_goto (pc' := 533) tX8_doAct_340 rfl ?_
          refine pR_sub (L' := [(1, .inl (nI c)), (0, .inr (.inr 0))]) [6, 5] rfl ?_
          rw [eσ2, eσ1]
          refine pR_post (fun x hx => ?_) (lp_fin _ hc)
          rw [hx]
      · skip
        exact absurd (by decide) hc266
    · skip
      exact absurd (by decide) hc46
  obtain ⟨x, h1, h2⟩ := key
  rw [h1, h2]

set_option maxRecDepth 100000 in
theorem ev_X8_doAct_3 (σ : pST) {c p : Nat} (hc : c < 16) (hp : σ.1 7 c = nI p) (hpl : p < 12) {r s : Nat} (hr : r < 4) (hs : s < 4) (h4 : σ.1 4 (12 * c + p) = nI r) (h5 : σ.1 5 (12 * c + p) = nI s) (h3 : σ.1 3 (12 * c + p) = nI 3) : kX8_doAct σ [.inr (.inr 0), .inl (nI c)] = some ((finM (σ.1, pm_uj (σ.2) 8 (4 * c + r) (σ.2 8 (4 * c + r) + σ.2 8 (4 * c + s))) c, some (.inl (-1)))) := by
  have key : ∃ x, kX8_doAct σ [.inr (.inr 0), .inl (nI c)] = some x ∧ x = (finM (σ.1, pm_uj (σ.2) 8 (4 * c + r) (σ.2 8 (4 * c + r) + σ.2 8 (4 * c + s))) c, some (.inl (-1))) := by
    refine pR_met (post := fun x => x = (finM (σ.1, pm_uj (σ.2) 8 (4 * c + r) (σ.2 8 (4 * c + r) + σ.2 8 (4 * c + s))) c, some (.inl (-1)))) rfl (Nat.le_of_ble_eq_true rfl) ?_
    show pR _ _ _ _ _ _ _ _ 0 [(0, .inr (.inr 0)), (1, .inl (nI c))] [] σ
    refine pr_bipush (v := nI 12) tX8_doAct_0 rfl ?_
    refine pr_iload_n tX8_doAct_2 1 rfl ?_
    refine pr_imul (v := (nI (12 * c))) tX8_doAct_3 (pk_mul _ _) ?_
    refine pr_aload_n tX8_doAct_4 0 rfl ?_
    refine pr_geta (j := 7) tX8_doAct_5 rfl rfl rfl rfl ?_
    refine pr_iload_n tX8_doAct_8 1 rfl ?_
    refine pr_ial tX8_doAct_9 c rfl rfl (by omega) (by decide) ?_
    refine pR_topi (y := (nI p)) (by simp [pm_ui, pm_uj, upd, vp_updL, hp]) ?_
    refine pr_iadd (v := (nI (12 * c + p))) tX8_doAct_10 (nI_add _ _) ?_
    refine pr_istore_n (L' := [(2, .inl (nI (12 * c + p))), (0, .inr (.inr 0)), (1, .inl (nI c))]) tX8_doAct_11 (by decide) rfl ?_
    refine pr_iconst (v := nI 4) tX8_doAct_12 rfl ?_
    refine pr_iload_n tX8_doAct_13 2 rfl ?_
    refine pr_imul (v := (nI (4 * c))) tX8_doAct_14 (pk_mul _ _) ?_
    refine pr_aload_n tX8_doAct_15 1 rfl ?_
    refine pr_geta (j := 4) tX8_doAct_16 rfl rfl rfl rfl ?_
    refine pr_iload_n tX8_doAct_19 0 rfl ?_
    refine pr_ial tX8_doAct_20 (12 * c + p) rfl rfl (by omega) (by decide) ?_
    refine pR_topi (y := (nI r)) (by simp [pm_ui, pm_uj, upd, vp_updL, h4]) ?_
    refine pr_iadd (v := (nI (4 * c + r))) tX8_doAct_21 (nI_add _ _) ?_
    refine pr_istore_n (L' := [(3, .inl (nI (4 * c + r))), (2, .inl (nI (12 * c + p))), (0, .inr (.inr 0)), (1, .inl (nI c))]) tX8_doAct_22 (by decide) rfl ?_
    refine pr_iconst (v := nI 4) tX8_doAct_23 rfl ?_
    refine pr_iload_n tX8_doAct_24 3 rfl ?_
    refine pr_imul (v := (nI (4 * c))) tX8_doAct_25 (pk_mul _ _) ?_
    refine pr_aload_n tX8_doAct_26 2 rfl ?_
    refine pr_geta (j := 5) tX8_doAct_27 rfl rfl rfl rfl ?_
    refine pr_iload_n tX8_doAct_30 1 rfl ?_
    refine pr_ial tX8_doAct_31 (12 * c + p) rfl rfl (by omega) (by decide) ?_
    refine pR_topi (y := (nI s)) (by simp [pm_ui, pm_uj, upd, vp_updL, h5]) ?_
    refine pr_iadd (v := (nI (4 * c + s))) tX8_doAct_32 (nI_add _ _) ?_
    refine pr_istore (L' := [(4, .inl (nI (4 * c + s))), (3, .inl (nI (4 * c + r))), (2, .inl (nI (12 * c + p))), (0, .inr (.inr 0)), (1, .inl (nI c))]) tX8_doAct_33 (by decide) rfl ?_
    refine pr_aload_n tX8_doAct_35 3 rfl ?_
    refine pr_geta (j := 3) tX8_doAct_36 rfl rfl rfl rfl ?_
    refine pr_iload_n tX8_doAct_39 2 rfl ?_
    refine pr_ial tX8_doAct_40 (12 * c + p) rfl rfl (by omega) (by decide) ?_
    refine pR_topi (y := (nI 3)) (by simp [pm_ui, pm_uj, upd, vp_updL, h3]) ?_
    refine pr_istore (L' := [(5, .inl (nI 3)), (4, .inl (nI (4 * c + s))), (3, .inl (nI (4 * c + r))), (2, .inl (nI (12 * c + p))), (0, .inr (.inr 0)), (1, .inl (nI c))]) tX8_doAct_41 (by decide) rfl ?_
    refine pr_iload tX8_doAct_43 0 rfl ?_
    refine pr_iconst (v := nI 1) tX8_doAct_45 rfl ?_
    refine pr_ic_ne (pc' := 264) tX8_doAct_46 rfl (fun hc46 => ?_) (fun hc46 => ?_)
    · skip
      refine pr_iload tX8_doAct_264 0 rfl ?_
      refine pr_if_ne (pc' := 284) tX8_doAct_266 rfl (fun hc266 => ?_) (fun hc266 => ?_)
      · skip
        refine pr_iload tX8_doAct_284 0 rfl ?_
        refine pr_iconst (v := nI 2) tX8_doAct_286 rfl ?_
        refine pr_ic_ne (pc' := 343) tX8_doAct_287 rfl (fun hc287 => ?_) (fun hc287 => ?_)
        · skip
          refine pr_iload tX8_doAct_343 0 rfl ?_
          refine pr_iconst (v := nI 3) tX8_doAct_345 rfl ?_
          refine pr_ic_ne (pc' := 372) tX8_doAct_346 rfl (fun hc346 => ?_) (fun hc346 => ?_)
          · skip
            exact absurd hc346 (by decide)
          · skip
            refine pr_aload_n tX8_doAct_349 4 rfl ?_
            refine pr_geta (j := 8) tX8_doAct_350 rfl rfl rfl rfl ?_
            refine pr_iload_n tX8_doAct_353 2 rfl ?_
            refine pr_aload_n tX8_doAct_354 4 rfl ?_
            refine pr_geta (j := 8) tX8_doAct_355 rfl rfl rfl rfl ?_
            refine pr_iload_n tX8_doAct_358 2 rfl ?_
            refine pr_lal tX8_doAct_359 (4 * c + r) rfl rfl (by omega) (by decide) ?_
            refine pr_aload_n tX8_doAct_360 4 rfl ?_
            refine pr_geta (j := 8) tX8_doAct_361 rfl rfl rfl rfl ?_
            refine pr_iload tX8_doAct_364 1 rfl ?_
            refine pr_lal tX8_doAct_366 (4 * c + s) rfl rfl (by omega) (by decide) ?_
            refine pr_ladd (v := ((σ.2 8 (4 * c + r)) + (σ.2 8 (4 * c + s)))) tX8_doAct_367 (rfl) ?_
            refine pr_las tX8_doAct_368 (4 * c + r) rfl rfl (by omega) (by decide) ?_
            obtain ⟨σ1, eσ1⟩ : ∃ z : pST, z = (σ.1, pm_uj σ.2 8 (4 * c + r) ((σ.2 8 (4 * c + r)) + (σ.2 8 (4 * c + s)))) := ⟨_, rfl⟩
            rw [← eσ1]
            refine pr_goto (pc' := 533) tX8_doAct_369 rfl ?_
            refine pR_sub (L' := [(1, .inl (nI c)), (0, .inr (.inr 0))]) [5, 4] rfl ?_
            rw [eσ1]
            refine pR_post (fun x hx => ?_) (lp_fin _ hc)
            rw [hx]
        · skip
          exact absurd (by decide) hc287
      · skip
        exact absurd (by decide) hc266
    · skip
      exact absurd (by decide) hc46
  obtain ⟨x, h1, h2⟩ := key
  rw [h1, h2]

set_option maxRecDepth 100000 in
theorem ev_X8_doAct_4 (σ : pST) {c p : Nat} (hc : c < 16) (hp : σ.1 7 c = nI p) (hpl : p < 12) {r s : Nat} (hr : r < 4) (hs : s < 4) (h4 : σ.1 4 (12 * c + p) = nI r) (h5 : σ.1 5 (12 * c + p) = nI s) (h3 : σ.1 3 (12 * c + p) = nI 4) : kX8_doAct σ [.inr (.inr 0), .inl (nI c)] = some ((finM (σ.1, pm_uj (σ.2) 8 (4 * c + r) (σ.2 8 (4 * c + r) - σ.2 8 (4 * c + s))) c, some (.inl (-1)))) := by
  have key : ∃ x, kX8_doAct σ [.inr (.inr 0), .inl (nI c)] = some x ∧ x = (finM (σ.1, pm_uj (σ.2) 8 (4 * c + r) (σ.2 8 (4 * c + r) - σ.2 8 (4 * c + s))) c, some (.inl (-1))) := by
    refine pR_met (post := fun x => x = (finM (σ.1, pm_uj (σ.2) 8 (4 * c + r) (σ.2 8 (4 * c + r) - σ.2 8 (4 * c + s))) c, some (.inl (-1)))) rfl (Nat.le_of_ble_eq_true rfl) ?_
    show pR _ _ _ _ _ _ _ _ 0 [(0, .inr (.inr 0)), (1, .inl (nI c))] [] σ
    refine pr_bipush (v := nI 12) tX8_doAct_0 rfl ?_
    refine pr_iload_n tX8_doAct_2 1 rfl ?_
    refine pr_imul (v := (nI (12 * c))) tX8_doAct_3 (pk_mul _ _) ?_
    refine pr_aload_n tX8_doAct_4 0 rfl ?_
    refine pr_geta (j := 7) tX8_doAct_5 rfl rfl rfl rfl ?_
    refine pr_iload_n tX8_doAct_8 1 rfl ?_
    refine pr_ial tX8_doAct_9 c rfl rfl (by omega) (by decide) ?_
    refine pR_topi (y := (nI p)) (by simp [pm_ui, pm_uj, upd, vp_updL, hp]) ?_
    refine pr_iadd (v := (nI (12 * c + p))) tX8_doAct_10 (nI_add _ _) ?_
    refine pr_istore_n (L' := [(2, .inl (nI (12 * c + p))), (0, .inr (.inr 0)), (1, .inl (nI c))]) tX8_doAct_11 (by decide) rfl ?_
    refine pr_iconst (v := nI 4) tX8_doAct_12 rfl ?_
    refine pr_iload_n tX8_doAct_13 2 rfl ?_
    refine pr_imul (v := (nI (4 * c))) tX8_doAct_14 (pk_mul _ _) ?_
    refine pr_aload_n tX8_doAct_15 1 rfl ?_
    refine pr_geta (j := 4) tX8_doAct_16 rfl rfl rfl rfl ?_
    refine pr_iload_n tX8_doAct_19 0 rfl ?_
    refine pr_ial tX8_doAct_20 (12 * c + p) rfl rfl (by omega) (by decide) ?_
    refine pR_topi (y := (nI r)) (by simp [pm_ui, pm_uj, upd, vp_updL, h4]) ?_
    refine pr_iadd (v := (nI (4 * c + r))) tX8_doAct_21 (nI_add _ _) ?_
    refine pr_istore_n (L' := [(3, .inl (nI (4 * c + r))), (2, .inl (nI (12 * c + p))), (0, .inr (.inr 0)), (1, .inl (nI c))]) tX8_doAct_22 (by decide) rfl ?_
    refine pr_iconst (v := nI 4) tX8_doAct_23 rfl ?_
    refine pr_iload_n tX8_doAct_24 3 rfl ?_
    refine pr_imul (v := (nI (4 * c))) tX8_doAct_25 (pk_mul _ _) ?_
    refine pr_aload_n tX8_doAct_26 2 rfl ?_
    refine pr_geta (j := 5) tX8_doAct_27 rfl rfl rfl rfl ?_
    refine pr_iload_n tX8_doAct_30 1 rfl ?_
    refine pr_ial tX8_doAct_31 (12 * c + p) rfl rfl (by omega) (by decide) ?_
    refine pR_topi (y := (nI s)) (by simp [pm_ui, pm_uj, upd, vp_updL, h5]) ?_
    refine pr_iadd (v := (nI (4 * c + s))) tX8_doAct_32 (nI_add _ _) ?_
    refine pr_istore (L' := [(4, .inl (nI (4 * c + s))), (3, .inl (nI (4 * c + r))), (2, .inl (nI (12 * c + p))), (0, .inr (.inr 0)), (1, .inl (nI c))]) tX8_doAct_33 (by decide) rfl ?_
    refine pr_aload_n tX8_doAct_35 3 rfl ?_
    refine pr_geta (j := 3) tX8_doAct_36 rfl rfl rfl rfl ?_
    refine pr_iload_n tX8_doAct_39 2 rfl ?_
    refine pr_ial tX8_doAct_40 (12 * c + p) rfl rfl (by omega) (by decide) ?_
    refine pR_topi (y := (nI 4)) (by simp [pm_ui, pm_uj, upd, vp_updL, h3]) ?_
    refine pr_istore (L' := [(5, .inl (nI 4)), (4, .inl (nI (4 * c + s))), (3, .inl (nI (4 * c + r))), (2, .inl (nI (12 * c + p))), (0, .inr (.inr 0)), (1, .inl (nI c))]) tX8_doAct_41 (by decide) rfl ?_
    refine pr_iload tX8_doAct_43 0 rfl ?_
    refine pr_iconst (v := nI 1) tX8_doAct_45 rfl ?_
    refine pr_ic_ne (pc' := 264) tX8_doAct_46 rfl (fun hc46 => ?_) (fun hc46 => ?_)
    · skip
      refine pr_iload tX8_doAct_264 0 rfl ?_
      refine pr_if_ne (pc' := 284) tX8_doAct_266 rfl (fun hc266 => ?_) (fun hc266 => ?_)
      · skip
        refine pr_iload tX8_doAct_284 0 rfl ?_
        refine pr_iconst (v := nI 2) tX8_doAct_286 rfl ?_
        refine pr_ic_ne (pc' := 343) tX8_doAct_287 rfl (fun hc287 => ?_) (fun hc287 => ?_)
        · skip
          refine pr_iload tX8_doAct_343 0 rfl ?_
          refine pr_iconst (v := nI 3) tX8_doAct_345 rfl ?_
          refine pr_ic_ne (pc' := 372) tX8_doAct_346 rfl (fun hc346 => ?_) (fun hc346 => ?_)
          · skip
            refine pr_iload tX8_doAct_372 0 rfl ?_
            refine pr_iconst (v := nI 4) tX8_doAct_374 rfl ?_
            refine pr_ic_ne (pc' := 401) tX8_doAct_375 rfl (fun hc375 => ?_) (fun hc375 => ?_)
            · skip
              exact absurd hc375 (by decide)
            · skip
              refine pr_aload_n tX8_doAct_378 4 rfl ?_
              refine pr_geta (j := 8) tX8_doAct_379 rfl rfl rfl rfl ?_
              refine pr_iload_n tX8_doAct_382 2 rfl ?_
              refine pr_aload_n tX8_doAct_383 4 rfl ?_
              refine pr_geta (j := 8) tX8_doAct_384 rfl rfl rfl rfl ?_
              refine pr_iload_n tX8_doAct_387 2 rfl ?_
              refine pr_lal tX8_doAct_388 (4 * c + r) rfl rfl (by omega) (by decide) ?_
              refine pr_aload_n tX8_doAct_389 4 rfl ?_
              refine pr_geta (j := 8) tX8_doAct_390 rfl rfl rfl rfl ?_
              refine pr_iload tX8_doAct_393 1 rfl ?_
              refine pr_lal tX8_doAct_395 (4 * c + s) rfl rfl (by omega) (by decide) ?_
              refine pr_lsub (v := ((σ.2 8 (4 * c + r)) - (σ.2 8 (4 * c + s)))) tX8_doAct_396 (rfl) ?_
              refine pr_las tX8_doAct_397 (4 * c + r) rfl rfl (by omega) (by decide) ?_
              obtain ⟨σ1, eσ1⟩ : ∃ z : pST, z = (σ.1, pm_uj σ.2 8 (4 * c + r) ((σ.2 8 (4 * c + r)) - (σ.2 8 (4 * c + s)))) := ⟨_, rfl⟩
              rw [← eσ1]
              refine pr_goto (pc' := 533) tX8_doAct_398 rfl ?_
              refine pR_sub (L' := [(1, .inl (nI c)), (0, .inr (.inr 0))]) [5, 4] rfl ?_
              rw [eσ1]
              refine pR_post (fun x hx => ?_) (lp_fin _ hc)
              rw [hx]
          · skip
            exact absurd (by decide) hc346
        · skip
          exact absurd (by decide) hc287
      · skip
        exact absurd (by decide) hc266
    · skip
      exact absurd (by decide) hc46
  obtain ⟨x, h1, h2⟩ := key
  rw [h1, h2]

set_option maxRecDepth 100000 in
theorem ev_X8_doAct_5 (σ : pST) {c p : Nat} (hc : c < 16) (hp : σ.1 7 c = nI p) (hpl : p < 12) {r s : Nat} (hr : r < 4) (hs : s < 4) (h4 : σ.1 4 (12 * c + p) = nI r) (h5 : σ.1 5 (12 * c + p) = nI s) (h3 : σ.1 3 (12 * c + p) = nI 5) : kX8_doAct σ [.inr (.inr 0), .inl (nI c)] = some ((finM (σ.1, pm_uj (σ.2) 8 (4 * c + r) (σ.2 8 (4 * c + r) * σ.2 8 (4 * c + s))) c, some (.inl (-1)))) := by
  have key : ∃ x, kX8_doAct σ [.inr (.inr 0), .inl (nI c)] = some x ∧ x = (finM (σ.1, pm_uj (σ.2) 8 (4 * c + r) (σ.2 8 (4 * c + r) * σ.2 8 (4 * c + s))) c, some (.inl (-1))) := by
    refine pR_met (post := fun x => x = (finM (σ.1, pm_uj (σ.2) 8 (4 * c + r) (σ.2 8 (4 * c + r) * σ.2 8 (4 * c + s))) c, some (.inl (-1)))) rfl (Nat.le_of_ble_eq_true rfl) ?_
    show pR _ _ _ _ _ _ _ _ 0 [(0, .inr (.inr 0)), (1, .inl (nI c))] [] σ
    refine pr_bipush (v := nI 12) tX8_doAct_0 rfl ?_
    refine pr_iload_n tX8_doAct_2 1 rfl ?_
    refine pr_imul (v := (nI (12 * c))) tX8_doAct_3 (pk_mul _ _) ?_
    refine pr_aload_n tX8_doAct_4 0 rfl ?_
    refine pr_geta (j := 7) tX8_doAct_5 rfl rfl rfl rfl ?_
    refine pr_iload_n tX8_doAct_8 1 rfl ?_
    refine pr_ial tX8_doAct_9 c rfl rfl (by omega) (by decide) ?_
    refine pR_topi (y := (nI p)) (by simp [pm_ui, pm_uj, upd, vp_updL, hp]) ?_
    refine pr_iadd (v := (nI (12 * c + p))) tX8_doAct_10 (nI_add _ _) ?_
    refine pr_istore_n (L' := [(2, .inl (nI (12 * c + p))), (0, .inr (.inr 0)), (1, .inl (nI c))]) tX8_doAct_11 (by decide) rfl ?_
    refine pr_iconst (v := nI 4) tX8_doAct_12 rfl ?_
    refine pr_iload_n tX8_doAct_13 2 rfl ?_
    refine pr_imul (v := (nI (4 * c))) tX8_doAct_14 (pk_mul _ _) ?_
    refine pr_aload_n tX8_doAct_15 1 rfl ?_
    refine pr_geta (j := 4) tX8_doAct_16 rfl rfl rfl rfl ?_
    refine pr_iload_n tX8_doAct_19 0 rfl ?_
    refine pr_ial tX8_doAct_20 (12 * c + p) rfl rfl (by omega) (by decide) ?_
    refine pR_topi (y := (nI r)) (by simp [pm_ui, pm_uj, upd, vp_updL, h4]) ?_
    refine pr_iadd (v := (nI (4 * c + r))) tX8_doAct_21 (nI_add _ _) ?_
    refine pr_istore_n (L' := [(3, .inl (nI (4 * c + r))), (2, .inl (nI (12 * c + p))), (0, .inr (.inr 0)), (1, .inl (nI c))]) tX8_doAct_22 (by decide) rfl ?_
    refine pr_iconst (v := nI 4) tX8_doAct_23 rfl ?_
    refine pr_iload_n tX8_doAct_24 3 rfl ?_
    refine pr_imul (v := (nI (4 * c))) tX8_doAct_25 (pk_mul _ _) ?_
    refine pr_aload_n tX8_doAct_26 2 rfl ?_
    refine pr_geta (j := 5) tX8_doAct_27 rfl rfl rfl rfl ?_
    refine pr_iload_n tX8_doAct_30 1 rfl ?_
    refine pr_ial tX8_doAct_31 (12 * c + p) rfl rfl (by omega) (by decide) ?_
    refine pR_topi (y := (nI s)) (by simp [pm_ui, pm_uj, upd, vp_updL, h5]) ?_
    refine pr_iadd (v := (nI (4 * c + s))) tX8_doAct_32 (nI_add _ _) ?_
    refine pr_istore (L' := [(4, .inl (nI (4 * c + s))), (3, .inl (nI (4 * c + r))), (2, .inl (nI (12 * c + p))), (0, .inr (.inr 0)), (1, .inl (nI c))]) tX8_doAct_33 (by decide) rfl ?_
    refine pr_aload_n tX8_doAct_35 3 rfl ?_
    refine pr_geta (j := 3) tX8_doAct_36 rfl rfl rfl rfl ?_
    refine pr_iload_n tX8_doAct_39 2 rfl ?_
    refine pr_ial tX8_doAct_40 (12 * c + p) rfl rfl (by omega) (by decide) ?_
    refine pR_topi (y := (nI 5)) (by simp [pm_ui, pm_uj, upd, vp_updL, h3]) ?_
    refine pr_istore (L' := [(5, .inl (nI 5)), (4, .inl (nI (4 * c + s))), (3, .inl (nI (4 * c + r))), (2, .inl (nI (12 * c + p))), (0, .inr (.inr 0)), (1, .inl (nI c))]) tX8_doAct_41 (by decide) rfl ?_
    refine pr_iload tX8_doAct_43 0 rfl ?_
    refine pr_iconst (v := nI 1) tX8_doAct_45 rfl ?_
    refine pr_ic_ne (pc' := 264) tX8_doAct_46 rfl (fun hc46 => ?_) (fun hc46 => ?_)
    · skip
      refine pr_iload tX8_doAct_264 0 rfl ?_
      refine pr_if_ne (pc' := 284) tX8_doAct_266 rfl (fun hc266 => ?_) (fun hc266 => ?_)
      · skip
        refine pr_iload tX8_doAct_284 0 rfl ?_
        refine pr_iconst (v := nI 2) tX8_doAct_286 rfl ?_
        refine pr_ic_ne (pc' := 343) tX8_doAct_287 rfl (fun hc287 => ?_) (fun hc287 => ?_)
        · skip
          refine pr_iload tX8_doAct_343 0 rfl ?_
          refine pr_iconst (v := nI 3) tX8_doAct_345 rfl ?_
          refine pr_ic_ne (pc' := 372) tX8_doAct_346 rfl (fun hc346 => ?_) (fun hc346 => ?_)
          · skip
            refine pr_iload tX8_doAct_372 0 rfl ?_
            refine pr_iconst (v := nI 4) tX8_doAct_374 rfl ?_
            refine pr_ic_ne (pc' := 401) tX8_doAct_375 rfl (fun hc375 => ?_) (fun hc375 => ?_)
            · skip
              refine pr_iload tX8_doAct_401 0 rfl ?_
              refine pr_iconst (v := nI 5) tX8_doAct_403 rfl ?_
              refine pr_ic_ne (pc' := 430) tX8_doAct_404 rfl (fun hc404 => ?_) (fun hc404 => ?_)
              · skip
                exact absurd hc404 (by decide)
              · skip
                refine pr_aload_n tX8_doAct_407 4 rfl ?_
                refine pr_geta (j := 8) tX8_doAct_408 rfl rfl rfl rfl ?_
                refine pr_iload_n tX8_doAct_411 2 rfl ?_
                refine pr_aload_n tX8_doAct_412 4 rfl ?_
                refine pr_geta (j := 8) tX8_doAct_413 rfl rfl rfl rfl ?_
                refine pr_iload_n tX8_doAct_416 2 rfl ?_
                refine pr_lal tX8_doAct_417 (4 * c + r) rfl rfl (by omega) (by decide) ?_
                refine pr_aload_n tX8_doAct_418 4 rfl ?_
                refine pr_geta (j := 8) tX8_doAct_419 rfl rfl rfl rfl ?_
                refine pr_iload tX8_doAct_422 1 rfl ?_
                refine pr_lal tX8_doAct_424 (4 * c + s) rfl rfl (by omega) (by decide) ?_
                refine pr_lmul (v := ((σ.2 8 (4 * c + r)) * (σ.2 8 (4 * c + s)))) tX8_doAct_425 (rfl) ?_
                refine pr_las tX8_doAct_426 (4 * c + r) rfl rfl (by omega) (by decide) ?_
                obtain ⟨σ1, eσ1⟩ : ∃ z : pST, z = (σ.1, pm_uj σ.2 8 (4 * c + r) ((σ.2 8 (4 * c + r)) * (σ.2 8 (4 * c + s)))) := ⟨_, rfl⟩
                rw [← eσ1]
                refine pr_goto (pc' := 533) tX8_doAct_427 rfl ?_
                refine pR_sub (L' := [(1, .inl (nI c)), (0, .inr (.inr 0))]) [5, 4] rfl ?_
                rw [eσ1]
                refine pR_post (fun x hx => ?_) (lp_fin _ hc)
                rw [hx]
            · skip
              exact absurd (by decide) hc375
          · skip
            exact absurd (by decide) hc346
        · skip
          exact absurd (by decide) hc287
      · skip
        exact absurd (by decide) hc266
    · skip
      exact absurd (by decide) hc46
  obtain ⟨x, h1, h2⟩ := key
  rw [h1, h2]

set_option maxRecDepth 100000 in
theorem ev_X8_doAct_6t (σ : pST) {c p : Nat} (hc : c < 16) (hp : σ.1 7 c = nI p) (hpl : p < 12) {r s : Nat} (hr : r < 4) (hs : s < 4) (h4 : σ.1 4 (12 * c + p) = nI r) (h5 : σ.1 5 (12 * c + p) = nI s) (h3 : σ.1 3 (12 * c + p) = nI 6) (hlt : lg_cmp (σ.2 8 (4 * c + r)) (σ.2 8 (4 * c + s)) < 0) : kX8_doAct σ [.inr (.inr 0), .inl (nI c)] = some ((finM (pm_ui (σ.1) 7 c (σ.1 7 c + (σ.2 6 (12 * c + p)).toInt32), σ.2) c, some (.inl (-1)))) := by
  have key : ∃ x, kX8_doAct σ [.inr (.inr 0), .inl (nI c)] = some x ∧ x = (finM (pm_ui (σ.1) 7 c (σ.1 7 c + (σ.2 6 (12 * c + p)).toInt32), σ.2) c, some (.inl (-1))) := by
    refine pR_met (post := fun x => x = (finM (pm_ui (σ.1) 7 c (σ.1 7 c + (σ.2 6 (12 * c + p)).toInt32), σ.2) c, some (.inl (-1)))) rfl (Nat.le_of_ble_eq_true rfl) ?_
    show pR _ _ _ _ _ _ _ _ 0 [(0, .inr (.inr 0)), (1, .inl (nI c))] [] σ
    refine pr_bipush (v := nI 12) tX8_doAct_0 rfl ?_
    refine pr_iload_n tX8_doAct_2 1 rfl ?_
    refine pr_imul (v := (nI (12 * c))) tX8_doAct_3 (pk_mul _ _) ?_
    refine pr_aload_n tX8_doAct_4 0 rfl ?_
    refine pr_geta (j := 7) tX8_doAct_5 rfl rfl rfl rfl ?_
    refine pr_iload_n tX8_doAct_8 1 rfl ?_
    refine pr_ial tX8_doAct_9 c rfl rfl (by omega) (by decide) ?_
    refine pR_topi (y := (nI p)) (by simp [pm_ui, pm_uj, upd, vp_updL, hp]) ?_
    refine pr_iadd (v := (nI (12 * c + p))) tX8_doAct_10 (nI_add _ _) ?_
    refine pr_istore_n (L' := [(2, .inl (nI (12 * c + p))), (0, .inr (.inr 0)), (1, .inl (nI c))]) tX8_doAct_11 (by decide) rfl ?_
    refine pr_iconst (v := nI 4) tX8_doAct_12 rfl ?_
    refine pr_iload_n tX8_doAct_13 2 rfl ?_
    refine pr_imul (v := (nI (4 * c))) tX8_doAct_14 (pk_mul _ _) ?_
    refine pr_aload_n tX8_doAct_15 1 rfl ?_
    refine pr_geta (j := 4) tX8_doAct_16 rfl rfl rfl rfl ?_
    refine pr_iload_n tX8_doAct_19 0 rfl ?_
    refine pr_ial tX8_doAct_20 (12 * c + p) rfl rfl (by omega) (by decide) ?_
    refine pR_topi (y := (nI r)) (by simp [pm_ui, pm_uj, upd, vp_updL, h4]) ?_
    refine pr_iadd (v := (nI (4 * c + r))) tX8_doAct_21 (nI_add _ _) ?_
    refine pr_istore_n (L' := [(3, .inl (nI (4 * c + r))), (2, .inl (nI (12 * c + p))), (0, .inr (.inr 0)), (1, .inl (nI c))]) tX8_doAct_22 (by decide) rfl ?_
    refine pr_iconst (v := nI 4) tX8_doAct_23 rfl ?_
    refine pr_iload_n tX8_doAct_24 3 rfl ?_
    refine pr_imul (v := (nI (4 * c))) tX8_doAct_25 (pk_mul _ _) ?_
    refine pr_aload_n tX8_doAct_26 2 rfl ?_
    refine pr_geta (j := 5) tX8_doAct_27 rfl rfl rfl rfl ?_
    refine pr_iload_n tX8_doAct_30 1 rfl ?_
    refine pr_ial tX8_doAct_31 (12 * c + p) rfl rfl (by omega) (by decide) ?_
    refine pR_topi (y := (nI s)) (by simp [pm_ui, pm_uj, upd, vp_updL, h5]) ?_
    refine pr_iadd (v := (nI (4 * c + s))) tX8_doAct_32 (nI_add _ _) ?_
    refine pr_istore (L' := [(4, .inl (nI (4 * c + s))), (3, .inl (nI (4 * c + r))), (2, .inl (nI (12 * c + p))), (0, .inr (.inr 0)), (1, .inl (nI c))]) tX8_doAct_33 (by decide) rfl ?_
    refine pr_aload_n tX8_doAct_35 3 rfl ?_
    refine pr_geta (j := 3) tX8_doAct_36 rfl rfl rfl rfl ?_
    refine pr_iload_n tX8_doAct_39 2 rfl ?_
    refine pr_ial tX8_doAct_40 (12 * c + p) rfl rfl (by omega) (by decide) ?_
    refine pR_topi (y := (nI 6)) (by simp [pm_ui, pm_uj, upd, vp_updL, h3]) ?_
    refine pr_istore (L' := [(5, .inl (nI 6)), (4, .inl (nI (4 * c + s))), (3, .inl (nI (4 * c + r))), (2, .inl (nI (12 * c + p))), (0, .inr (.inr 0)), (1, .inl (nI c))]) tX8_doAct_41 (by decide) rfl ?_
    refine pr_iload tX8_doAct_43 0 rfl ?_
    refine pr_iconst (v := nI 1) tX8_doAct_45 rfl ?_
    refine pr_ic_ne (pc' := 264) tX8_doAct_46 rfl (fun hc46 => ?_) (fun hc46 => ?_)
    · skip
      refine pr_iload tX8_doAct_264 0 rfl ?_
      refine pr_if_ne (pc' := 284) tX8_doAct_266 rfl (fun hc266 => ?_) (fun hc266 => ?_)
      · skip
        refine pr_iload tX8_doAct_284 0 rfl ?_
        refine pr_iconst (v := nI 2) tX8_doAct_286 rfl ?_
        refine pr_ic_ne (pc' := 343) tX8_doAct_287 rfl (fun hc287 => ?_) (fun hc287 => ?_)
        · skip
          refine pr_iload tX8_doAct_343 0 rfl ?_
          refine pr_iconst (v := nI 3) tX8_doAct_345 rfl ?_
          refine pr_ic_ne (pc' := 372) tX8_doAct_346 rfl (fun hc346 => ?_) (fun hc346 => ?_)
          · skip
            refine pr_iload tX8_doAct_372 0 rfl ?_
            refine pr_iconst (v := nI 4) tX8_doAct_374 rfl ?_
            refine pr_ic_ne (pc' := 401) tX8_doAct_375 rfl (fun hc375 => ?_) (fun hc375 => ?_)
            · skip
              refine pr_iload tX8_doAct_401 0 rfl ?_
              refine pr_iconst (v := nI 5) tX8_doAct_403 rfl ?_
              refine pr_ic_ne (pc' := 430) tX8_doAct_404 rfl (fun hc404 => ?_) (fun hc404 => ?_)
              · skip
                refine pr_iload tX8_doAct_430 0 rfl ?_
                refine pr_bipush (v := nI 6) tX8_doAct_432 rfl ?_
                refine pr_ic_ne (pc' := 473) tX8_doAct_434 rfl (fun hc434 => ?_) (fun hc434 => ?_)
                · skip
                  exact absurd hc434 (by decide)
                · skip
                  refine pr_aload_n tX8_doAct_437 4 rfl ?_
                  refine pr_geta (j := 8) tX8_doAct_438 rfl rfl rfl rfl ?_
                  refine pr_iload_n tX8_doAct_441 2 rfl ?_
                  refine pr_lal tX8_doAct_442 (4 * c + r) rfl rfl (by omega) (by decide) ?_
                  refine pr_aload_n tX8_doAct_443 4 rfl ?_
                  refine pr_geta (j := 8) tX8_doAct_444 rfl rfl rfl rfl ?_
                  refine pr_iload tX8_doAct_447 1 rfl ?_
                  refine pr_lal tX8_doAct_449 (4 * c + s) rfl rfl (by omega) (by decide) ?_
                  refine pr_lcmp tX8_doAct_450 ?_
                  refine pr_if_ge (pc' := 533) tX8_doAct_451 rfl (fun hc451 => ?_) (fun hc451 => ?_)
                  · skip
                    exact absurd hlt (Int32.not_lt.mpr hc451)
                  · skip
                    skip
                    refine pr_aload_n tX8_doAct_454 4 rfl ?_
                    refine pr_geta (j := 7) tX8_doAct_455 rfl rfl rfl rfl ?_
                    refine pr_iload_n tX8_doAct_458 5 rfl ?_
                    refine pr_dup2 tX8_doAct_459 ⟨rfl, rfl⟩ ?_
                    refine pr_ial tX8_doAct_460 c rfl rfl (by omega) (by decide) ?_
                    refine pr_aload_n tX8_doAct_461 4 rfl ?_
                    refine pr_geta (j := 6) tX8_doAct_462 rfl rfl rfl rfl ?_
                    refine pr_iload_n tX8_doAct_465 3 rfl ?_
                    refine pr_lal tX8_doAct_466 (12 * c + p) rfl rfl (by omega) (by decide) ?_
                    refine pr_l2i (v := ((σ.2 6 (12 * c + p)).toInt32)) tX8_doAct_467 (rfl) ?_
                    refine pr_iadd (v := ((σ.1 7 c) + ((σ.2 6 (12 * c + p)).toInt32))) tX8_doAct_468 (rfl) ?_
                    refine pr_ias tX8_doAct_469 c rfl rfl (by omega) (by decide) ?_
                    obtain ⟨σ1, eσ1⟩ : ∃ z : pST, z = (pm_ui σ.1 7 c ((σ.1 7 c) + ((σ.2 6 (12 * c + p)).toInt32)), σ.2) := ⟨_, rfl⟩
                    rw [← eσ1]
                    refine pr_goto (pc' := 533) tX8_doAct_470 rfl ?_
                    refine pR_sub (L' := [(1, .inl (nI c)), (0, .inr (.inr 0))]) [5, 4] rfl ?_
                    rw [eσ1]
                    refine pR_post (fun x hx => ?_) (lp_fin _ hc)
                    rw [hx]
              · skip
                exact absurd (by decide) hc404
            · skip
              exact absurd (by decide) hc375
          · skip
            exact absurd (by decide) hc346
        · skip
          exact absurd (by decide) hc287
      · skip
        exact absurd (by decide) hc266
    · skip
      exact absurd (by decide) hc46
  obtain ⟨x, h1, h2⟩ := key
  rw [h1, h2]

set_option maxRecDepth 100000 in
theorem ev_X8_doAct_6f (σ : pST) {c p : Nat} (hc : c < 16) (hp : σ.1 7 c = nI p) (hpl : p < 12) {r s : Nat} (hr : r < 4) (hs : s < 4) (h4 : σ.1 4 (12 * c + p) = nI r) (h5 : σ.1 5 (12 * c + p) = nI s) (h3 : σ.1 3 (12 * c + p) = nI 6) (hlt : ¬ lg_cmp (σ.2 8 (4 * c + r)) (σ.2 8 (4 * c + s)) < 0) : kX8_doAct σ [.inr (.inr 0), .inl (nI c)] = some ((finM σ c, some (.inl (-1)))) := by
  have key : ∃ x, kX8_doAct σ [.inr (.inr 0), .inl (nI c)] = some x ∧ x = (finM σ c, some (.inl (-1))) := by
    refine pR_met (post := fun x => x = (finM σ c, some (.inl (-1)))) rfl (Nat.le_of_ble_eq_true rfl) ?_
    show pR _ _ _ _ _ _ _ _ 0 [(0, .inr (.inr 0)), (1, .inl (nI c))] [] σ
    refine pr_bipush (v := nI 12) tX8_doAct_0 rfl ?_
    refine pr_iload_n tX8_doAct_2 1 rfl ?_
    refine pr_imul (v := (nI (12 * c))) tX8_doAct_3 (pk_mul _ _) ?_
    refine pr_aload_n tX8_doAct_4 0 rfl ?_
    refine pr_geta (j := 7) tX8_doAct_5 rfl rfl rfl rfl ?_
    refine pr_iload_n tX8_doAct_8 1 rfl ?_
    refine pr_ial tX8_doAct_9 c rfl rfl (by omega) (by decide) ?_
    refine pR_topi (y := (nI p)) (by simp [pm_ui, pm_uj, upd, vp_updL, hp]) ?_
    refine pr_iadd (v := (nI (12 * c + p))) tX8_doAct_10 (nI_add _ _) ?_
    refine pr_istore_n (L' := [(2, .inl (nI (12 * c + p))), (0, .inr (.inr 0)), (1, .inl (nI c))]) tX8_doAct_11 (by decide) rfl ?_
    refine pr_iconst (v := nI 4) tX8_doAct_12 rfl ?_
    refine pr_iload_n tX8_doAct_13 2 rfl ?_
    refine pr_imul (v := (nI (4 * c))) tX8_doAct_14 (pk_mul _ _) ?_
    refine pr_aload_n tX8_doAct_15 1 rfl ?_
    refine pr_geta (j := 4) tX8_doAct_16 rfl rfl rfl rfl ?_
    refine pr_iload_n tX8_doAct_19 0 rfl ?_
    refine pr_ial tX8_doAct_20 (12 * c + p) rfl rfl (by omega) (by decide) ?_
    refine pR_topi (y := (nI r)) (by simp [pm_ui, pm_uj, upd, vp_updL, h4]) ?_
    refine pr_iadd (v := (nI (4 * c + r))) tX8_doAct_21 (nI_add _ _) ?_
    refine pr_istore_n (L' := [(3, .inl (nI (4 * c + r))), (2, .inl (nI (12 * c + p))), (0, .inr (.inr 0)), (1, .inl (nI c))]) tX8_doAct_22 (by decide) rfl ?_
    refine pr_iconst (v := nI 4) tX8_doAct_23 rfl ?_
    refine pr_iload_n tX8_doAct_24 3 rfl ?_
    refine pr_imul (v := (nI (4 * c))) tX8_doAct_25 (pk_mul _ _) ?_
    refine pr_aload_n tX8_doAct_26 2 rfl ?_
    refine pr_geta (j := 5) tX8_doAct_27 rfl rfl rfl rfl ?_
    refine pr_iload_n tX8_doAct_30 1 rfl ?_
    refine pr_ial tX8_doAct_31 (12 * c + p) rfl rfl (by omega) (by decide) ?_
    refine pR_topi (y := (nI s)) (by simp [pm_ui, pm_uj, upd, vp_updL, h5]) ?_
    refine pr_iadd (v := (nI (4 * c + s))) tX8_doAct_32 (nI_add _ _) ?_
    refine pr_istore (L' := [(4, .inl (nI (4 * c + s))), (3, .inl (nI (4 * c + r))), (2, .inl (nI (12 * c + p))), (0, .inr (.inr 0)), (1, .inl (nI c))]) tX8_doAct_33 (by decide) rfl ?_
    refine pr_aload_n tX8_doAct_35 3 rfl ?_
    refine pr_geta (j := 3) tX8_doAct_36 rfl rfl rfl rfl ?_
    refine pr_iload_n tX8_doAct_39 2 rfl ?_
    refine pr_ial tX8_doAct_40 (12 * c + p) rfl rfl (by omega) (by decide) ?_
    refine pR_topi (y := (nI 6)) (by simp [pm_ui, pm_uj, upd, vp_updL, h3]) ?_
    refine pr_istore (L' := [(5, .inl (nI 6)), (4, .inl (nI (4 * c + s))), (3, .inl (nI (4 * c + r))), (2, .inl (nI (12 * c + p))), (0, .inr (.inr 0)), (1, .inl (nI c))]) tX8_doAct_41 (by decide) rfl ?_
    refine pr_iload tX8_doAct_43 0 rfl ?_
    refine pr_iconst (v := nI 1) tX8_doAct_45 rfl ?_
    refine pr_ic_ne (pc' := 264) tX8_doAct_46 rfl (fun hc46 => ?_) (fun hc46 => ?_)
    · skip
      refine pr_iload tX8_doAct_264 0 rfl ?_
      refine pr_if_ne (pc' := 284) tX8_doAct_266 rfl (fun hc266 => ?_) (fun hc266 => ?_)
      · skip
        refine pr_iload tX8_doAct_284 0 rfl ?_
        refine pr_iconst (v := nI 2) tX8_doAct_286 rfl ?_
        refine pr_ic_ne (pc' := 343) tX8_doAct_287 rfl (fun hc287 => ?_) (fun hc287 => ?_)
        · skip
          refine pr_iload tX8_doAct_343 0 rfl ?_
          refine pr_iconst (v := nI 3) tX8_doAct_345 rfl ?_
          refine pr_ic_ne (pc' := 372) tX8_doAct_346 rfl (fun hc346 => ?_) (fun hc346 => ?_)
          · skip
            refine pr_iload tX8_doAct_372 0 rfl ?_
            refine pr_iconst (v := nI 4) tX8_doAct_374 rfl ?_
            refine pr_ic_ne (pc' := 401) tX8_doAct_375 rfl (fun hc375 => ?_) (fun hc375 => ?_)
            · skip
              refine pr_iload tX8_doAct_401 0 rfl ?_
              refine pr_iconst (v := nI 5) tX8_doAct_403 rfl ?_
              refine pr_ic_ne (pc' := 430) tX8_doAct_404 rfl (fun hc404 => ?_) (fun hc404 => ?_)
              · skip
                refine pr_iload tX8_doAct_430 0 rfl ?_
                refine pr_bipush (v := nI 6) tX8_doAct_432 rfl ?_
                refine pr_ic_ne (pc' := 473) tX8_doAct_434 rfl (fun hc434 => ?_) (fun hc434 => ?_)
                · skip
                  exact absurd hc434 (by decide)
                · skip
                  refine pr_aload_n tX8_doAct_437 4 rfl ?_
                  refine pr_geta (j := 8) tX8_doAct_438 rfl rfl rfl rfl ?_
                  refine pr_iload_n tX8_doAct_441 2 rfl ?_
                  refine pr_lal tX8_doAct_442 (4 * c + r) rfl rfl (by omega) (by decide) ?_
                  refine pr_aload_n tX8_doAct_443 4 rfl ?_
                  refine pr_geta (j := 8) tX8_doAct_444 rfl rfl rfl rfl ?_
                  refine pr_iload tX8_doAct_447 1 rfl ?_
                  refine pr_lal tX8_doAct_449 (4 * c + s) rfl rfl (by omega) (by decide) ?_
                  refine pr_lcmp tX8_doAct_450 ?_
                  refine pr_if_ge (pc' := 533) tX8_doAct_451 rfl (fun hc451 => ?_) (fun hc451 => ?_)
                  · skip
                    skip
                    refine pR_sub (L' := [(1, .inl (nI c)), (0, .inr (.inr 0))]) [5, 4] rfl ?_
                    refine pR_post (fun x hx => ?_) (lp_fin _ hc)
                    rw [hx]
                  · skip
                    exact absurd (Int32.not_lt.mp hlt) hc451
              · skip
                exact absurd (by decide) hc404
            · skip
              exact absurd (by decide) hc375
          · skip
            exact absurd (by decide) hc346
        · skip
          exact absurd (by decide) hc287
      · skip
        exact absurd (by decide) hc266
    · skip
      exact absurd (by decide) hc46
  obtain ⟨x, h1, h2⟩ := key
  rw [h1, h2]

set_option maxRecDepth 100000 in
theorem ev_X8_doAct_7 (σ : pST) {c p : Nat} (hc : c < 16) (hp : σ.1 7 c = nI p) (hpl : p < 12) {r s : Nat} (hr : r < 4) (hs : s < 4) (h4 : σ.1 4 (12 * c + p) = nI r) (h5 : σ.1 5 (12 * c + p) = nI s) (h3 : σ.1 3 (12 * c + p) = nI 7) {en : Nat} (he : σ.1 17 c = nI en) (hel : en < 12) : kX8_doAct σ [.inr (.inr 0), .inl (nI c)] = some ((finM (pm_ui (σ.1) 17 c (nI (en + 1)), pm_uj (σ.2) 18 (12 * c + en) (σ.2 8 (4 * c + r))) c, some (.inl (-1)))) := by
  have key : ∃ x, kX8_doAct σ [.inr (.inr 0), .inl (nI c)] = some x ∧ x = (finM (pm_ui (σ.1) 17 c (nI (en + 1)), pm_uj (σ.2) 18 (12 * c + en) (σ.2 8 (4 * c + r))) c, some (.inl (-1))) := by
    refine pR_met (post := fun x => x = (finM (pm_ui (σ.1) 17 c (nI (en + 1)), pm_uj (σ.2) 18 (12 * c + en) (σ.2 8 (4 * c + r))) c, some (.inl (-1)))) rfl (Nat.le_of_ble_eq_true rfl) ?_
    show pR _ _ _ _ _ _ _ _ 0 [(0, .inr (.inr 0)), (1, .inl (nI c))] [] σ
    refine pr_bipush (v := nI 12) tX8_doAct_0 rfl ?_
    refine pr_iload_n tX8_doAct_2 1 rfl ?_
    refine pr_imul (v := (nI (12 * c))) tX8_doAct_3 (pk_mul _ _) ?_
    refine pr_aload_n tX8_doAct_4 0 rfl ?_
    refine pr_geta (j := 7) tX8_doAct_5 rfl rfl rfl rfl ?_
    refine pr_iload_n tX8_doAct_8 1 rfl ?_
    refine pr_ial tX8_doAct_9 c rfl rfl (by omega) (by decide) ?_
    refine pR_topi (y := (nI p)) (by simp [pm_ui, pm_uj, upd, vp_updL, hp]) ?_
    refine pr_iadd (v := (nI (12 * c + p))) tX8_doAct_10 (nI_add _ _) ?_
    refine pr_istore_n (L' := [(2, .inl (nI (12 * c + p))), (0, .inr (.inr 0)), (1, .inl (nI c))]) tX8_doAct_11 (by decide) rfl ?_
    refine pr_iconst (v := nI 4) tX8_doAct_12 rfl ?_
    refine pr_iload_n tX8_doAct_13 2 rfl ?_
    refine pr_imul (v := (nI (4 * c))) tX8_doAct_14 (pk_mul _ _) ?_
    refine pr_aload_n tX8_doAct_15 1 rfl ?_
    refine pr_geta (j := 4) tX8_doAct_16 rfl rfl rfl rfl ?_
    refine pr_iload_n tX8_doAct_19 0 rfl ?_
    refine pr_ial tX8_doAct_20 (12 * c + p) rfl rfl (by omega) (by decide) ?_
    refine pR_topi (y := (nI r)) (by simp [pm_ui, pm_uj, upd, vp_updL, h4]) ?_
    refine pr_iadd (v := (nI (4 * c + r))) tX8_doAct_21 (nI_add _ _) ?_
    refine pr_istore_n (L' := [(3, .inl (nI (4 * c + r))), (2, .inl (nI (12 * c + p))), (0, .inr (.inr 0)), (1, .inl (nI c))]) tX8_doAct_22 (by decide) rfl ?_
    refine pr_iconst (v := nI 4) tX8_doAct_23 rfl ?_
    refine pr_iload_n tX8_doAct_24 3 rfl ?_
    refine pr_imul (v := (nI (4 * c))) tX8_doAct_25 (pk_mul _ _) ?_
    refine pr_aload_n tX8_doAct_26 2 rfl ?_
    refine pr_geta (j := 5) tX8_doAct_27 rfl rfl rfl rfl ?_
    refine pr_iload_n tX8_doAct_30 1 rfl ?_
    refine pr_ial tX8_doAct_31 (12 * c + p) rfl rfl (by omega) (by decide) ?_
    refine pR_topi (y := (nI s)) (by simp [pm_ui, pm_uj, upd, vp_updL, h5]) ?_
    refine pr_iadd (v := (nI (4 * c + s))) tX8_doAct_32 (nI_add _ _) ?_
    refine pr_istore (L' := [(4, .inl (nI (4 * c + s))), (3, .inl (nI (4 * c + r))), (2, .inl (nI (12 * c + p))), (0, .inr (.inr 0)), (1, .inl (nI c))]) tX8_doAct_33 (by decide) rfl ?_
    refine pr_aload_n tX8_doAct_35 3 rfl ?_
    refine pr_geta (j := 3) tX8_doAct_36 rfl rfl rfl rfl ?_
    refine pr_iload_n tX8_doAct_39 2 rfl ?_
    refine pr_ial tX8_doAct_40 (12 * c + p) rfl rfl (by omega) (by decide) ?_
    refine pR_topi (y := (nI 7)) (by simp [pm_ui, pm_uj, upd, vp_updL, h3]) ?_
    refine pr_istore (L' := [(5, .inl (nI 7)), (4, .inl (nI (4 * c + s))), (3, .inl (nI (4 * c + r))), (2, .inl (nI (12 * c + p))), (0, .inr (.inr 0)), (1, .inl (nI c))]) tX8_doAct_41 (by decide) rfl ?_
    refine pr_iload tX8_doAct_43 0 rfl ?_
    refine pr_iconst (v := nI 1) tX8_doAct_45 rfl ?_
    refine pr_ic_ne (pc' := 264) tX8_doAct_46 rfl (fun hc46 => ?_) (fun hc46 => ?_)
    · skip
      refine pr_iload tX8_doAct_264 0 rfl ?_
      refine pr_if_ne (pc' := 284) tX8_doAct_266 rfl (fun hc266 => ?_) (fun hc266 => ?_)
      · skip
        refine pr_iload tX8_doAct_284 0 rfl ?_
        refine pr_iconst (v := nI 2) tX8_doAct_286 rfl ?_
        refine pr_ic_ne (pc' := 343) tX8_doAct_287 rfl (fun hc287 => ?_) (fun hc287 => ?_)
        · skip
          refine pr_iload tX8_doAct_343 0 rfl ?_
          refine pr_iconst (v := nI 3) tX8_doAct_345 rfl ?_
          refine pr_ic_ne (pc' := 372) tX8_doAct_346 rfl (fun hc346 => ?_) (fun hc346 => ?_)
          · skip
            refine pr_iload tX8_doAct_372 0 rfl ?_
            refine pr_iconst (v := nI 4) tX8_doAct_374 rfl ?_
            refine pr_ic_ne (pc' := 401) tX8_doAct_375 rfl (fun hc375 => ?_) (fun hc375 => ?_)
            · skip
              refine pr_iload tX8_doAct_401 0 rfl ?_
              refine pr_iconst (v := nI 5) tX8_doAct_403 rfl ?_
              refine pr_ic_ne (pc' := 430) tX8_doAct_404 rfl (fun hc404 => ?_) (fun hc404 => ?_)
              · skip
                refine pr_iload tX8_doAct_430 0 rfl ?_
                refine pr_bipush (v := nI 6) tX8_doAct_432 rfl ?_
                refine pr_ic_ne (pc' := 473) tX8_doAct_434 rfl (fun hc434 => ?_) (fun hc434 => ?_)
                · skip
                  refine pr_iload tX8_doAct_473 0 rfl ?_
                  refine pr_bipush (v := nI 7) tX8_doAct_475 rfl ?_
                  refine pr_ic_ne (pc' := 515) tX8_doAct_477 rfl (fun hc477 => ?_) (fun hc477 => ?_)
                  · skip
                    exact absurd hc477 (by decide)
                  · skip
                    refine pr_aload_n tX8_doAct_480 4 rfl ?_
                    refine pr_geta (j := 18) tX8_doAct_481 rfl rfl rfl rfl ?_
                    refine pr_bipush (v := nI 12) tX8_doAct_484 rfl ?_
                    refine pr_iload_n tX8_doAct_486 5 rfl ?_
                    refine pr_imul (v := (nI (12 * c))) tX8_doAct_487 (pk_mul _ _) ?_
                    refine pr_aload_n tX8_doAct_488 4 rfl ?_
                    refine pr_geta (j := 17) tX8_doAct_489 rfl rfl rfl rfl ?_
                    refine pr_iload_n tX8_doAct_492 5 rfl ?_
                    refine pr_ial tX8_doAct_493 c rfl rfl (by omega) (by decide) ?_
                    refine pR_topi (y := (nI en)) (by simp [pm_ui, pm_uj, upd, vp_updL, he]) ?_
                    refine pr_iadd (v := (nI (12 * c + en))) tX8_doAct_494 (nI_add _ _) ?_
                    refine pr_aload_n tX8_doAct_495 4 rfl ?_
                    refine pr_geta (j := 8) tX8_doAct_496 rfl rfl rfl rfl ?_
                    refine pr_iload_n tX8_doAct_499 2 rfl ?_
                    refine pr_lal tX8_doAct_500 (4 * c + r) rfl rfl (by omega) (by decide) ?_
                    refine pr_las tX8_doAct_501 (12 * c + en) rfl rfl (by omega) (by decide) ?_
                    obtain ⟨σ1, eσ1⟩ : ∃ z : pST, z = (σ.1, pm_uj σ.2 18 (12 * c + en) (σ.2 8 (4 * c + r))) := ⟨_, rfl⟩
                    rw [← eσ1]
                    refine pr_aload_n tX8_doAct_502 4 rfl ?_
                    refine pr_geta (j := 17) tX8_doAct_503 rfl rfl rfl rfl ?_
                    refine pr_iload_n tX8_doAct_506 5 rfl ?_
                    refine pr_dup2 tX8_doAct_507 ⟨rfl, rfl⟩ ?_
                    refine pr_ial tX8_doAct_508 c rfl rfl (by omega) (by decide) ?_
                    refine pR_topi (y := (nI en)) (by simp [eσ1, pm_ui, pm_uj, upd, vp_updL, he]) ?_
                    refine pr_iconst (v := nI 1) tX8_doAct_509 rfl ?_
                    refine pr_iadd (v := (nI (en + 1))) tX8_doAct_510 (nI_add _ _) ?_
                    refine pr_ias tX8_doAct_511 c rfl rfl (by omega) (by decide) ?_
                    obtain ⟨σ2, eσ2⟩ : ∃ z : pST, z = (pm_ui σ1.1 17 c (nI (en + 1)), σ1.2) := ⟨_, rfl⟩
                    rw [← eσ2]
                    refine pr_goto (pc' := 533) tX8_doAct_512 rfl ?_
                    refine pR_sub (L' := [(1, .inl (nI c)), (0, .inr (.inr 0))]) [5, 4] rfl ?_
                    rw [eσ2, eσ1]
                    refine pR_post (fun x hx => ?_) (lp_fin _ hc)
                    rw [hx]
                · skip
                  exact absurd (by decide) hc434
              · skip
                exact absurd (by decide) hc404
            · skip
              exact absurd (by decide) hc375
          · skip
            exact absurd (by decide) hc346
        · skip
          exact absurd (by decide) hc287
      · skip
        exact absurd (by decide) hc266
    · skip
      exact absurd (by decide) hc46
  obtain ⟨x, h1, h2⟩ := key
  rw [h1, h2]

set_option maxRecDepth 100000 in
theorem ev_X8_doAct_8t (σ : pST) {c p : Nat} (hc : c < 16) (hp : σ.1 7 c = nI p) (hpl : p < 12) {r s : Nat} (hr : r < 4) (hs : s < 4) (h4 : σ.1 4 (12 * c + p) = nI r) (h5 : σ.1 5 (12 * c + p) = nI s) (h3 : σ.1 3 (12 * c + p) = nI 8) (hlt : lg_cmp (σ.2 8 (4 * c + r)) 0 < 0) : kX8_doAct σ [.inr (.inr 0), .inl (nI c)] = some ((finM (pm_ui (σ.1) 9 c (nI 1), σ.2) c, some (.inl (-1)))) := by
  have key : ∃ x, kX8_doAct σ [.inr (.inr 0), .inl (nI c)] = some x ∧ x = (finM (pm_ui (σ.1) 9 c (nI 1), σ.2) c, some (.inl (-1))) := by
    refine pR_met (post := fun x => x = (finM (pm_ui (σ.1) 9 c (nI 1), σ.2) c, some (.inl (-1)))) rfl (Nat.le_of_ble_eq_true rfl) ?_
    show pR _ _ _ _ _ _ _ _ 0 [(0, .inr (.inr 0)), (1, .inl (nI c))] [] σ
    refine pr_bipush (v := nI 12) tX8_doAct_0 rfl ?_
    refine pr_iload_n tX8_doAct_2 1 rfl ?_
    refine pr_imul (v := (nI (12 * c))) tX8_doAct_3 (pk_mul _ _) ?_
    refine pr_aload_n tX8_doAct_4 0 rfl ?_
    refine pr_geta (j := 7) tX8_doAct_5 rfl rfl rfl rfl ?_
    refine pr_iload_n tX8_doAct_8 1 rfl ?_
    refine pr_ial tX8_doAct_9 c rfl rfl (by omega) (by decide) ?_
    refine pR_topi (y := (nI p)) (by simp [pm_ui, pm_uj, upd, vp_updL, hp]) ?_
    refine pr_iadd (v := (nI (12 * c + p))) tX8_doAct_10 (nI_add _ _) ?_
    refine pr_istore_n (L' := [(2, .inl (nI (12 * c + p))), (0, .inr (.inr 0)), (1, .inl (nI c))]) tX8_doAct_11 (by decide) rfl ?_
    refine pr_iconst (v := nI 4) tX8_doAct_12 rfl ?_
    refine pr_iload_n tX8_doAct_13 2 rfl ?_
    refine pr_imul (v := (nI (4 * c))) tX8_doAct_14 (pk_mul _ _) ?_
    refine pr_aload_n tX8_doAct_15 1 rfl ?_
    refine pr_geta (j := 4) tX8_doAct_16 rfl rfl rfl rfl ?_
    refine pr_iload_n tX8_doAct_19 0 rfl ?_
    refine pr_ial tX8_doAct_20 (12 * c + p) rfl rfl (by omega) (by decide) ?_
    refine pR_topi (y := (nI r)) (by simp [pm_ui, pm_uj, upd, vp_updL, h4]) ?_
    refine pr_iadd (v := (nI (4 * c + r))) tX8_doAct_21 (nI_add _ _) ?_
    refine pr_istore_n (L' := [(3, .inl (nI (4 * c + r))), (2, .inl (nI (12 * c + p))), (0, .inr (.inr 0)), (1, .inl (nI c))]) tX8_doAct_22 (by decide) rfl ?_
    refine pr_iconst (v := nI 4) tX8_doAct_23 rfl ?_
    refine pr_iload_n tX8_doAct_24 3 rfl ?_
    refine pr_imul (v := (nI (4 * c))) tX8_doAct_25 (pk_mul _ _) ?_
    refine pr_aload_n tX8_doAct_26 2 rfl ?_
    refine pr_geta (j := 5) tX8_doAct_27 rfl rfl rfl rfl ?_
    refine pr_iload_n tX8_doAct_30 1 rfl ?_
    refine pr_ial tX8_doAct_31 (12 * c + p) rfl rfl (by omega) (by decide) ?_
    refine pR_topi (y := (nI s)) (by simp [pm_ui, pm_uj, upd, vp_updL, h5]) ?_
    refine pr_iadd (v := (nI (4 * c + s))) tX8_doAct_32 (nI_add _ _) ?_
    refine pr_istore (L' := [(4, .inl (nI (4 * c + s))), (3, .inl (nI (4 * c + r))), (2, .inl (nI (12 * c + p))), (0, .inr (.inr 0)), (1, .inl (nI c))]) tX8_doAct_33 (by decide) rfl ?_
    refine pr_aload_n tX8_doAct_35 3 rfl ?_
    refine pr_geta (j := 3) tX8_doAct_36 rfl rfl rfl rfl ?_
    refine pr_iload_n tX8_doAct_39 2 rfl ?_
    refine pr_ial tX8_doAct_40 (12 * c + p) rfl rfl (by omega) (by decide) ?_
    refine pR_topi (y := (nI 8)) (by simp [pm_ui, pm_uj, upd, vp_updL, h3]) ?_
    refine pr_istore (L' := [(5, .inl (nI 8)), (4, .inl (nI (4 * c + s))), (3, .inl (nI (4 * c + r))), (2, .inl (nI (12 * c + p))), (0, .inr (.inr 0)), (1, .inl (nI c))]) tX8_doAct_41 (by decide) rfl ?_
    refine pr_iload tX8_doAct_43 0 rfl ?_
    refine pr_iconst (v := nI 1) tX8_doAct_45 rfl ?_
    refine pr_ic_ne (pc' := 264) tX8_doAct_46 rfl (fun hc46 => ?_) (fun hc46 => ?_)
    · skip
      refine pr_iload tX8_doAct_264 0 rfl ?_
      refine pr_if_ne (pc' := 284) tX8_doAct_266 rfl (fun hc266 => ?_) (fun hc266 => ?_)
      · skip
        refine pr_iload tX8_doAct_284 0 rfl ?_
        refine pr_iconst (v := nI 2) tX8_doAct_286 rfl ?_
        refine pr_ic_ne (pc' := 343) tX8_doAct_287 rfl (fun hc287 => ?_) (fun hc287 => ?_)
        · skip
          refine pr_iload tX8_doAct_343 0 rfl ?_
          refine pr_iconst (v := nI 3) tX8_doAct_345 rfl ?_
          refine pr_ic_ne (pc' := 372) tX8_doAct_346 rfl (fun hc346 => ?_) (fun hc346 => ?_)
          · skip
            refine pr_iload tX8_doAct_372 0 rfl ?_
            refine pr_iconst (v := nI 4) tX8_doAct_374 rfl ?_
            refine pr_ic_ne (pc' := 401) tX8_doAct_375 rfl (fun hc375 => ?_) (fun hc375 => ?_)
            · skip
              refine pr_iload tX8_doAct_401 0 rfl ?_
              refine pr_iconst (v := nI 5) tX8_doAct_403 rfl ?_
              refine pr_ic_ne (pc' := 430) tX8_doAct_404 rfl (fun hc404 => ?_) (fun hc404 => ?_)
              · skip
                refine pr_iload tX8_doAct_430 0 rfl ?_
                refine pr_bipush (v := nI 6) tX8_doAct_432 rfl ?_
                refine pr_ic_ne (pc' := 473) tX8_doAct_434 rfl (fun hc434 => ?_) (fun hc434 => ?_)
                · skip
                  refine pr_iload tX8_doAct_473 0 rfl ?_
                  refine pr_bipush (v := nI 7) tX8_doAct_475 rfl ?_
                  refine pr_ic_ne (pc' := 515) tX8_doAct_477 rfl (fun hc477 => ?_) (fun hc477 => ?_)
                  · skip
                    refine pr_aload_n tX8_doAct_515 4 rfl ?_
                    refine pr_geta (j := 8) tX8_doAct_516 rfl rfl rfl rfl ?_
                    refine pr_iload_n tX8_doAct_519 2 rfl ?_
                    refine pr_lal tX8_doAct_520 (4 * c + r) rfl rfl (by omega) (by decide) ?_
                    refine pr_lconst (v := 0) tX8_doAct_521 rfl ?_
                    refine pr_lcmp tX8_doAct_522 ?_
                    refine pr_if_ge (pc' := 533) tX8_doAct_523 rfl (fun hc523 => ?_) (fun hc523 => ?_)
                    · skip
                      exact absurd hlt (Int32.not_lt.mpr hc523)
                    · skip
                      skip
                      refine pr_aload_n tX8_doAct_526 4 rfl ?_
                      refine pr_geta (j := 9) tX8_doAct_527 rfl rfl rfl rfl ?_
                      refine pr_iload_n tX8_doAct_530 5 rfl ?_
                      refine pr_iconst (v := nI 1) tX8_doAct_531 rfl ?_
                      refine pr_zas tX8_doAct_532 c rfl rfl (by omega) (by decide) (by decide) ?_
                      obtain ⟨σ1, eσ1⟩ : ∃ z : pST, z = (pm_ui σ.1 9 c (nI 1), σ.2) := ⟨_, rfl⟩
                      rw [← eσ1]
                      refine pR_sub (L' := [(1, .inl (nI c)), (0, .inr (.inr 0))]) [5, 4] rfl ?_
                      rw [eσ1]
                      refine pR_post (fun x hx => ?_) (lp_fin _ hc)
                      rw [hx]
                  · skip
                    exact absurd (by decide) hc477
                · skip
                  exact absurd (by decide) hc434
              · skip
                exact absurd (by decide) hc404
            · skip
              exact absurd (by decide) hc375
          · skip
            exact absurd (by decide) hc346
        · skip
          exact absurd (by decide) hc287
      · skip
        exact absurd (by decide) hc266
    · skip
      exact absurd (by decide) hc46
  obtain ⟨x, h1, h2⟩ := key
  rw [h1, h2]

set_option maxRecDepth 100000 in
theorem ev_X8_doAct_8f (σ : pST) {c p : Nat} (hc : c < 16) (hp : σ.1 7 c = nI p) (hpl : p < 12) {r s : Nat} (hr : r < 4) (hs : s < 4) (h4 : σ.1 4 (12 * c + p) = nI r) (h5 : σ.1 5 (12 * c + p) = nI s) (h3 : σ.1 3 (12 * c + p) = nI 8) (hlt : ¬ lg_cmp (σ.2 8 (4 * c + r)) 0 < 0) : kX8_doAct σ [.inr (.inr 0), .inl (nI c)] = some ((finM σ c, some (.inl (-1)))) := by
  have key : ∃ x, kX8_doAct σ [.inr (.inr 0), .inl (nI c)] = some x ∧ x = (finM σ c, some (.inl (-1))) := by
    refine pR_met (post := fun x => x = (finM σ c, some (.inl (-1)))) rfl (Nat.le_of_ble_eq_true rfl) ?_
    show pR _ _ _ _ _ _ _ _ 0 [(0, .inr (.inr 0)), (1, .inl (nI c))] [] σ
    refine pr_bipush (v := nI 12) tX8_doAct_0 rfl ?_
    refine pr_iload_n tX8_doAct_2 1 rfl ?_
    refine pr_imul (v := (nI (12 * c))) tX8_doAct_3 (pk_mul _ _) ?_
    refine pr_aload_n tX8_doAct_4 0 rfl ?_
    refine pr_geta (j := 7) tX8_doAct_5 rfl rfl rfl rfl ?_
    refine pr_iload_n tX8_doAct_8 1 rfl ?_
    refine pr_ial tX8_doAct_9 c rfl rfl (by omega) (by decide) ?_
    refine pR_topi (y := (nI p)) (by simp [pm_ui, pm_uj, upd, vp_updL, hp]) ?_
    refine pr_iadd (v := (nI (12 * c + p))) tX8_doAct_10 (nI_add _ _) ?_
    refine pr_istore_n (L' := [(2, .inl (nI (12 * c + p))), (0, .inr (.inr 0)), (1, .inl (nI c))]) tX8_doAct_11 (by decide) rfl ?_
    refine pr_iconst (v := nI 4) tX8_doAct_12 rfl ?_
    refine pr_iload_n tX8_doAct_13 2 rfl ?_
    refine pr_imul (v := (nI (4 * c))) tX8_doAct_14 (pk_mul _ _) ?_
    refine pr_aload_n tX8_doAct_15 1 rfl ?_
    refine pr_geta (j := 4) tX8_doAct_16 rfl rfl rfl rfl ?_
    refine pr_iload_n tX8_doAct_19 0 rfl ?_
    refine pr_ial tX8_doAct_20 (12 * c + p) rfl rfl (by omega) (by decide) ?_
    refine pR_topi (y := (nI r)) (by simp [pm_ui, pm_uj, upd, vp_updL, h4]) ?_
    refine pr_iadd (v := (nI (4 * c + r))) tX8_doAct_21 (nI_add _ _) ?_
    refine pr_istore_n (L' := [(3, .inl (nI (4 * c + r))), (2, .inl (nI (12 * c + p))), (0, .inr (.inr 0)), (1, .inl (nI c))]) tX8_doAct_22 (by decide) rfl ?_
    refine pr_iconst (v := nI 4) tX8_doAct_23 rfl ?_
    refine pr_iload_n tX8_doAct_24 3 rfl ?_
    refine pr_imul (v := (nI (4 * c))) tX8_doAct_25 (pk_mul _ _) ?_
    refine pr_aload_n tX8_doAct_26 2 rfl ?_
    refine pr_geta (j := 5) tX8_doAct_27 rfl rfl rfl rfl ?_
    refine pr_iload_n tX8_doAct_30 1 rfl ?_
    refine pr_ial tX8_doAct_31 (12 * c + p) rfl rfl (by omega) (by decide) ?_
    refine pR_topi (y := (nI s)) (by simp [pm_ui, pm_uj, upd, vp_updL, h5]) ?_
    refine pr_iadd (v := (nI (4 * c + s))) tX8_doAct_32 (nI_add _ _) ?_
    refine pr_istore (L' := [(4, .inl (nI (4 * c + s))), (3, .inl (nI (4 * c + r))), (2, .inl (nI (12 * c + p))), (0, .inr (.inr 0)), (1, .inl (nI c))]) tX8_doAct_33 (by decide) rfl ?_
    refine pr_aload_n tX8_doAct_35 3 rfl ?_
    refine pr_geta (j := 3) tX8_doAct_36 rfl rfl rfl rfl ?_
    refine pr_iload_n tX8_doAct_39 2 rfl ?_
    refine pr_ial tX8_doAct_40 (12 * c + p) rfl rfl (by omega) (by decide) ?_
    refine pR_topi (y := (nI 8)) (by simp [pm_ui, pm_uj, upd, vp_updL, h3]) ?_
    refine pr_istore (L' := [(5, .inl (nI 8)), (4, .inl (nI (4 * c + s))), (3, .inl (nI (4 * c + r))), (2, .inl (nI (12 * c + p))), (0, .inr (.inr 0)), (1, .inl (nI c))]) tX8_doAct_41 (by decide) rfl ?_
    refine pr_iload tX8_doAct_43 0 rfl ?_
    refine pr_iconst (v := nI 1) tX8_doAct_45 rfl ?_
    refine pr_ic_ne (pc' := 264) tX8_doAct_46 rfl (fun hc46 => ?_) (fun hc46 => ?_)
    · skip
      refine pr_iload tX8_doAct_264 0 rfl ?_
      refine pr_if_ne (pc' := 284) tX8_doAct_266 rfl (fun hc266 => ?_) (fun hc266 => ?_)
      · skip
        refine pr_iload tX8_doAct_284 0 rfl ?_
        refine pr_iconst (v := nI 2) tX8_doAct_286 rfl ?_
        refine pr_ic_ne (pc' := 343) tX8_doAct_287 rfl (fun hc287 => ?_) (fun hc287 => ?_)
        · skip
          refine pr_iload tX8_doAct_343 0 rfl ?_
          refine pr_iconst (v := nI 3) tX8_doAct_345 rfl ?_
          refine pr_ic_ne (pc' := 372) tX8_doAct_346 rfl (fun hc346 => ?_) (fun hc346 => ?_)
          · skip
            refine pr_iload tX8_doAct_372 0 rfl ?_
            refine pr_iconst (v := nI 4) tX8_doAct_374 rfl ?_
            refine pr_ic_ne (pc' := 401) tX8_doAct_375 rfl (fun hc375 => ?_) (fun hc375 => ?_)
            · skip
              refine pr_iload tX8_doAct_401 0 rfl ?_
              refine pr_iconst (v := nI 5) tX8_doAct_403 rfl ?_
              refine pr_ic_ne (pc' := 430) tX8_doAct_404 rfl (fun hc404 => ?_) (fun hc404 => ?_)
              · skip
                refine pr_iload tX8_doAct_430 0 rfl ?_
                refine pr_bipush (v := nI 6) tX8_doAct_432 rfl ?_
                refine pr_ic_ne (pc' := 473) tX8_doAct_434 rfl (fun hc434 => ?_) (fun hc434 => ?_)
                · skip
                  refine pr_iload tX8_doAct_473 0 rfl ?_
                  refine pr_bipush (v := nI 7) tX8_doAct_475 rfl ?_
                  refine pr_ic_ne (pc' := 515) tX8_doAct_477 rfl (fun hc477 => ?_) (fun hc477 => ?_)
                  · skip
                    refine pr_aload_n tX8_doAct_515 4 rfl ?_
                    refine pr_geta (j := 8) tX8_doAct_516 rfl rfl rfl rfl ?_
                    refine pr_iload_n tX8_doAct_519 2 rfl ?_
                    refine pr_lal tX8_doAct_520 (4 * c + r) rfl rfl (by omega) (by decide) ?_
                    refine pr_lconst (v := 0) tX8_doAct_521 rfl ?_
                    refine pr_lcmp tX8_doAct_522 ?_
                    refine pr_if_ge (pc' := 533) tX8_doAct_523 rfl (fun hc523 => ?_) (fun hc523 => ?_)
                    · skip
                      skip
                      refine pR_sub (L' := [(1, .inl (nI c)), (0, .inr (.inr 0))]) [5, 4] rfl ?_
                      refine pR_post (fun x hx => ?_) (lp_fin _ hc)
                      rw [hx]
                    · skip
                      exact absurd (Int32.not_lt.mp hlt) hc523
                  · skip
                    exact absurd (by decide) hc477
                · skip
                  exact absurd (by decide) hc434
              · skip
                exact absurd (by decide) hc404
            · skip
              exact absurd (by decide) hc375
          · skip
            exact absurd (by decide) hc346
        · skip
          exact absurd (by decide) hc287
      · skip
        exact absurd (by decide) hc266
    · skip
      exact absurd (by decide) hc46
  obtain ⟨x, h1, h2⟩ := key
  rw [h1, h2]

set_option maxRecDepth 100000 in
theorem ev_X8_doAct_1w (σ : pST) {c p : Nat} (hc : c < 16) (hp : σ.1 7 c = nI p) (hpl : p < 12) {r s : Nat} (hr : r < 4) (hs : s < 4) (h4 : σ.1 4 (12 * c + p) = nI r) (h5 : σ.1 5 (12 * c + p) = nI s) (h3 : σ.1 3 (12 * c + p) = nI 1) {l : Nat} (hl : l < 32) (hlf : lfA (σ.2 6 (12 * c + p) + σ.2 8 (4 * c + s)) = l) (hw : ¬ σ.1 10 (32 * c + l) = 0) : kX8_doAct σ [.inr (.inr 0), .inl (nI c)] = some ((finM (σ.1, pm_uj (σ.2) 8 (4 * c + r) (σ.2 11 (32 * c + l))) c, some (.inl (-1)))) := by
  have key : ∃ x, kX8_doAct σ [.inr (.inr 0), .inl (nI c)] = some x ∧ x = (finM (σ.1, pm_uj (σ.2) 8 (4 * c + r) (σ.2 11 (32 * c + l))) c, some (.inl (-1))) := by
    refine pR_met (post := fun x => x = (finM (σ.1, pm_uj (σ.2) 8 (4 * c + r) (σ.2 11 (32 * c + l))) c, some (.inl (-1)))) rfl (Nat.le_of_ble_eq_true rfl) ?_
    show pR _ _ _ _ _ _ _ _ 0 [(0, .inr (.inr 0)), (1, .inl (nI c))] [] σ
    refine pr_bipush (v := nI 12) tX8_doAct_0 rfl ?_
    refine pr_iload_n tX8_doAct_2 1 rfl ?_
    refine pr_imul (v := (nI (12 * c))) tX8_doAct_3 (pk_mul _ _) ?_
    refine pr_aload_n tX8_doAct_4 0 rfl ?_
    refine pr_geta (j := 7) tX8_doAct_5 rfl rfl rfl rfl ?_
    refine pr_iload_n tX8_doAct_8 1 rfl ?_
    refine pr_ial tX8_doAct_9 c rfl rfl (by omega) (by decide) ?_
    refine pR_topi (y := (nI p)) (by simp [pm_ui, pm_uj, upd, vp_updL, hp]) ?_
    refine pr_iadd (v := (nI (12 * c + p))) tX8_doAct_10 (nI_add _ _) ?_
    refine pr_istore_n (L' := [(2, .inl (nI (12 * c + p))), (0, .inr (.inr 0)), (1, .inl (nI c))]) tX8_doAct_11 (by decide) rfl ?_
    refine pr_iconst (v := nI 4) tX8_doAct_12 rfl ?_
    refine pr_iload_n tX8_doAct_13 2 rfl ?_
    refine pr_imul (v := (nI (4 * c))) tX8_doAct_14 (pk_mul _ _) ?_
    refine pr_aload_n tX8_doAct_15 1 rfl ?_
    refine pr_geta (j := 4) tX8_doAct_16 rfl rfl rfl rfl ?_
    refine pr_iload_n tX8_doAct_19 0 rfl ?_
    refine pr_ial tX8_doAct_20 (12 * c + p) rfl rfl (by omega) (by decide) ?_
    refine pR_topi (y := (nI r)) (by simp [pm_ui, pm_uj, upd, vp_updL, h4]) ?_
    refine pr_iadd (v := (nI (4 * c + r))) tX8_doAct_21 (nI_add _ _) ?_
    refine pr_istore_n (L' := [(3, .inl (nI (4 * c + r))), (2, .inl (nI (12 * c + p))), (0, .inr (.inr 0)), (1, .inl (nI c))]) tX8_doAct_22 (by decide) rfl ?_
    refine pr_iconst (v := nI 4) tX8_doAct_23 rfl ?_
    refine pr_iload_n tX8_doAct_24 3 rfl ?_
    refine pr_imul (v := (nI (4 * c))) tX8_doAct_25 (pk_mul _ _) ?_
    refine pr_aload_n tX8_doAct_26 2 rfl ?_
    refine pr_geta (j := 5) tX8_doAct_27 rfl rfl rfl rfl ?_
    refine pr_iload_n tX8_doAct_30 1 rfl ?_
    refine pr_ial tX8_doAct_31 (12 * c + p) rfl rfl (by omega) (by decide) ?_
    refine pR_topi (y := (nI s)) (by simp [pm_ui, pm_uj, upd, vp_updL, h5]) ?_
    refine pr_iadd (v := (nI (4 * c + s))) tX8_doAct_32 (nI_add _ _) ?_
    refine pr_istore (L' := [(4, .inl (nI (4 * c + s))), (3, .inl (nI (4 * c + r))), (2, .inl (nI (12 * c + p))), (0, .inr (.inr 0)), (1, .inl (nI c))]) tX8_doAct_33 (by decide) rfl ?_
    refine pr_aload_n tX8_doAct_35 3 rfl ?_
    refine pr_geta (j := 3) tX8_doAct_36 rfl rfl rfl rfl ?_
    refine pr_iload_n tX8_doAct_39 2 rfl ?_
    refine pr_ial tX8_doAct_40 (12 * c + p) rfl rfl (by omega) (by decide) ?_
    refine pR_topi (y := (nI 1)) (by simp [pm_ui, pm_uj, upd, vp_updL, h3]) ?_
    refine pr_istore (L' := [(5, .inl (nI 1)), (4, .inl (nI (4 * c + s))), (3, .inl (nI (4 * c + r))), (2, .inl (nI (12 * c + p))), (0, .inr (.inr 0)), (1, .inl (nI c))]) tX8_doAct_41 (by decide) rfl ?_
    refine pr_iload tX8_doAct_43 0 rfl ?_
    refine pr_iconst (v := nI 1) tX8_doAct_45 rfl ?_
    refine pr_ic_ne (pc' := 264) tX8_doAct_46 rfl (fun hc46 => ?_) (fun hc46 => ?_)
    · skip
      exact absurd hc46 (by decide)
    · skip
      refine pr_aload_n tX8_doAct_49 4 rfl ?_
      refine pr_geta (j := 6) tX8_doAct_50 rfl rfl rfl rfl ?_
      refine pr_iload_n tX8_doAct_53 3 rfl ?_
      refine pr_lal tX8_doAct_54 (12 * c + p) rfl rfl (by omega) (by decide) ?_
      refine pr_aload_n tX8_doAct_55 4 rfl ?_
      refine pr_geta (j := 8) tX8_doAct_56 rfl rfl rfl rfl ?_
      refine pr_iload tX8_doAct_59 1 rfl ?_
      refine pr_lal tX8_doAct_61 (4 * c + s) rfl rfl (by omega) (by decide) ?_
      refine pr_ladd (v := ((σ.2 6 (12 * c + p)) + (σ.2 8 (4 * c + s)))) tX8_doAct_62 (rfl) ?_
      refine pr_callS tX8_doAct_63 rfl ⟨Nat.le_of_ble_eq_true rfl, Nat.le_of_ble_eq_true rfl, rfl⟩ ((ev_X8_leafOf _ _).trans (by rw [leafM, hlf])) ?_
      refine pR_eq (st' := [.inl (nI l)]) rfl rfl ?_
      refine pr_istore (L' := [(6, .inl (nI l)), (5, .inl (nI 1)), (4, .inl (nI (4 * c + s))), (3, .inl (nI (4 * c + r))), (2, .inl (nI (12 * c + p))), (0, .inr (.inr 0)), (1, .inl (nI c))]) tX8_doAct_66 (by decide) rfl ?_
      refine pr_aload_n tX8_doAct_68 5 rfl ?_
      refine pr_geta (j := 10) tX8_doAct_69 rfl rfl rfl rfl ?_
      refine pr_bipush (v := nI 32) tX8_doAct_72 rfl ?_
      refine pr_iload_n tX8_doAct_74 6 rfl ?_
      refine pr_imul (v := (nI (32 * c))) tX8_doAct_75 (pk_mul _ _) ?_
      refine pr_iload tX8_doAct_76 0 rfl ?_
      refine pr_iadd (v := (nI (32 * c + l))) tX8_doAct_78 (nI_add _ _) ?_
      refine pr_zal tX8_doAct_79 (32 * c + l) rfl rfl (by omega) (by decide) ?_
      refine pr_if_eq (pc' := 104) tX8_doAct_80 rfl (fun hc80 => ?_) (fun hc80 => ?_)
      · skip
        exact absurd hc80 hw
      · skip
        skip
        refine pr_aload_n tX8_doAct_83 5 rfl ?_
        refine pr_geta (j := 8) tX8_doAct_84 rfl rfl rfl rfl ?_
        refine pr_iload_n tX8_doAct_87 3 rfl ?_
        refine pr_aload_n tX8_doAct_88 5 rfl ?_
        refine pr_geta (j := 11) tX8_doAct_89 rfl rfl rfl rfl ?_
        refine pr_bipush (v := nI 32) tX8_doAct_92 rfl ?_
        refine pr_iload_n tX8_doAct_94 6 rfl ?_
        refine pr_imul (v := (nI (32 * c))) tX8_doAct_95 (pk_mul _ _) ?_
        refine pr_iload tX8_doAct_96 0 rfl ?_
        refine pr_iadd (v := (nI (32 * c + l))) tX8_doAct_98 (nI_add _ _) ?_
        refine pr_lal tX8_doAct_99 (32 * c + l) rfl rfl (by omega) (by decide) ?_
        refine pr_las tX8_doAct_100 (4 * c + r) rfl rfl (by omega) (by decide) ?_
        obtain ⟨σ1, eσ1⟩ : ∃ z : pST, z = (σ.1, pm_uj σ.2 8 (4 * c + r) (σ.2 11 (32 * c + l))) := ⟨_, rfl⟩
        rw [← eσ1]
        refine pr_goto (pc' := 261) tX8_doAct_101 rfl ?_
        refine pr_goto (pc' := 533) tX8_doAct_261 rfl ?_
        refine pR_sub (L' := [(1, .inl (nI c)), (0, .inr (.inr 0))]) [6, 5] rfl ?_
        rw [eσ1]
        refine pR_post (fun x hx => ?_) (lp_fin _ hc)
        rw [hx]
  obtain ⟨x, h1, h2⟩ := key
  rw [h1, h2]

set_option maxRecDepth 100000 in
theorem lp_srch (σ : pST) {c p r s l kn m0 : Nat} {kl : Nat → Nat} {P : pRT → Prop} (hc : c < 16) (hl : l < 32) (hkn : σ.1 12 c = nI kn) (hk2 : kn ≤ 12) (hkl : ∀ i, i < kn → σ.1 13 (32 * c + i) = nI (kl i)) (hkb : ∀ i, i < kn → kl i < 32) (hm : m0 ≤ kn) (hlt : ∀ i, i < m0 → kl i ≠ l) (h0 : m0 = kn ∨ kl m0 = l) (K : pR shM tX8_doAct fX8_doAct qX8_doAct lX8_doAct 8 1 P 141 [(7, .inl (nI m0)), (6, .inl (nI l)), (5, .inl (nI 1)), (4, .inl (nI (4 * c + s))), (3, .inl (nI (4 * c + r))), (2, .inl (nI (12 * c + p))), (1, .inl (nI c)), (0, .inr (.inr 0))] [] σ) : ∀ (m i : Nat), i + m = m0 → pR shM tX8_doAct fX8_doAct qX8_doAct lX8_doAct 8 1 P 107 [(7, .inl (nI i)), (6, .inl (nI l)), (5, .inl (nI 1)), (4, .inl (nI (4 * c + s))), (3, .inl (nI (4 * c + r))), (2, .inl (nI (12 * c + p))), (1, .inl (nI c)), (0, .inr (.inr 0))] [] σ := by
  intro m
  induction m with
  | zero =>
    intro i hi
    refine pr_iload tX8_doAct_107 0 rfl ?_
    refine pr_aload_n tX8_doAct_109 7 rfl ?_
    refine pr_geta (j := 12) tX8_doAct_110 rfl rfl rfl rfl ?_
    refine pr_iload_n tX8_doAct_113 6 rfl ?_
    refine pr_ial tX8_doAct_114 c rfl rfl (by omega) (by decide) ?_
    refine pR_topi (y := (nI kn)) (by simp [pm_ui, pm_uj, upd, vp_updL, hkn]) ?_
    refine pr_ic_ge (pc' := 141) tX8_doAct_115 rfl (fun hc115 => ?_) (fun hc115 => ?_)
    · skip
      have hc115 : kn ≤ i := (nI_leI (by omega) (by omega)).mp hc115
      refine pR_sub (L' := [(7, .inl (nI i)), (6, .inl (nI l)), (5, .inl (nI 1)), (4, .inl (nI (4 * c + s))), (3, .inl (nI (4 * c + r))), (2, .inl (nI (12 * c + p))), (1, .inl (nI c)), (0, .inr (.inr 0))]) [0, 1, 2, 3, 4, 5, 6, 7] rfl ?_
      rw [show i = m0 by omega]
      exact K
    · skip
      have hc115 : ¬ kn ≤ i := fun z9 => hc115 ((nI_leI (by omega) (by omega)).mpr z9)
      refine pr_aload_n tX8_doAct_118 7 rfl ?_
      refine pr_geta (j := 13) tX8_doAct_119 rfl rfl rfl rfl ?_
      refine pr_bipush (v := nI 32) tX8_doAct_122 rfl ?_
      refine pr_iload_n tX8_doAct_124 6 rfl ?_
      refine pr_imul (v := (nI (32 * c))) tX8_doAct_125 (pk_mul _ _) ?_
      refine pr_iload tX8_doAct_126 0 rfl ?_
      refine pr_iadd (v := (nI (32 * c + i))) tX8_doAct_128 (nI_add _ _) ?_
      refine pr_ial tX8_doAct_129 (32 * c + i) rfl rfl (by omega) (by decide) ?_
      refine pR_topi (y := (nI (kl i))) (hkl i (by omega)) ?_
      refine pr_iload tX8_doAct_130 1 rfl ?_
      refine pr_ic_eq (pc' := 141) tX8_doAct_132 rfl (fun hc132 => ?_) (fun hc132 => ?_)
      · skip
        skip
        refine pR_sub (L' := [(7, .inl (nI i)), (6, .inl (nI l)), (5, .inl (nI 1)), (4, .inl (nI (4 * c + s))), (3, .inl (nI (4 * c + r))), (2, .inl (nI (12 * c + p))), (1, .inl (nI c)), (0, .inr (.inr 0))]) [0, 1, 2, 3, 4, 5, 6, 7] rfl ?_
        rw [show i = m0 by omega]
        exact K
      · skip
        exact absurd (by rw [show i = m0 by omega, h0.resolve_left (by omega)]) hc132
  | succ m ih =>
    intro i hi
    refine pr_iload tX8_doAct_107 0 rfl ?_
    refine pr_aload_n tX8_doAct_109 7 rfl ?_
    refine pr_geta (j := 12) tX8_doAct_110 rfl rfl rfl rfl ?_
    refine pr_iload_n tX8_doAct_113 6 rfl ?_
    refine pr_ial tX8_doAct_114 c rfl rfl (by omega) (by decide) ?_
    refine pR_topi (y := (nI kn)) (by simp [pm_ui, pm_uj, upd, vp_updL, hkn]) ?_
    refine pr_ic_ge (pc' := 141) tX8_doAct_115 rfl (fun hc115 => ?_) (fun hc115 => ?_)
    · skip
      exact absurd ((nI_leI (by omega) (by omega)).mp hc115) (by omega)
    · skip
      have hc115 : ¬ kn ≤ i := fun z9 => hc115 ((nI_leI (by omega) (by omega)).mpr z9)
      refine pr_aload_n tX8_doAct_118 7 rfl ?_
      refine pr_geta (j := 13) tX8_doAct_119 rfl rfl rfl rfl ?_
      refine pr_bipush (v := nI 32) tX8_doAct_122 rfl ?_
      refine pr_iload_n tX8_doAct_124 6 rfl ?_
      refine pr_imul (v := (nI (32 * c))) tX8_doAct_125 (pk_mul _ _) ?_
      refine pr_iload tX8_doAct_126 0 rfl ?_
      refine pr_iadd (v := (nI (32 * c + i))) tX8_doAct_128 (nI_add _ _) ?_
      refine pr_ial tX8_doAct_129 (32 * c + i) rfl rfl (by omega) (by decide) ?_
      refine pR_topi (y := (nI (kl i))) (hkl i (by omega)) ?_
      refine pr_iload tX8_doAct_130 1 rfl ?_
      refine pr_ic_eq (pc' := 141) tX8_doAct_132 rfl (fun hc132 => ?_) (fun hc132 => ?_)
      · skip
        exact absurd ((nI_eq (by have := hkb i (by omega); omega) (by omega)).mp hc132) (hlt i (by omega))
      · skip
        skip
        refine pr_iinc (v := (nI (i + 1))) (L' := [(7, .inl (nI (i + 1))), (6, .inl (nI l)), (5, .inl (nI 1)), (4, .inl (nI (4 * c + s))), (3, .inl (nI (4 * c + r))), (2, .inl (nI (12 * c + p))), (1, .inl (nI c)), (0, .inr (.inr 0))]) tX8_doAct_135 0 rfl (nI_1 _) (by decide) rfl ?_
        refine pr_goto (pc' := 107) tX8_doAct_138 rfl ?_
        refine pR_sub (L' := [(7, .inl (nI (i + 1))), (6, .inl (nI l)), (5, .inl (nI 1)), (4, .inl (nI (4 * c + s))), (3, .inl (nI (4 * c + r))), (2, .inl (nI (12 * c + p))), (1, .inl (nI c)), (0, .inr (.inr 0))]) [0, 1, 2, 3, 4, 5, 6, 7] rfl ?_
        exact ih (i + 1) (by omega)

set_option maxRecDepth 100000 in
theorem ev_X8_doAct_1k (σ : pST) {c p : Nat} (hc : c < 16) (hp : σ.1 7 c = nI p) (hpl : p < 12) {r s : Nat} (hr : r < 4) (hs : s < 4) (h4 : σ.1 4 (12 * c + p) = nI r) (h5 : σ.1 5 (12 * c + p) = nI s) (h3 : σ.1 3 (12 * c + p) = nI 1) {l : Nat} (hl : l < 32) (hlf : lfA (σ.2 6 (12 * c + p) + σ.2 8 (4 * c + s)) = l) (hw : σ.1 10 (32 * c + l) = 0) {kn m0 : Nat} {kl : Nat → Nat} (hkn : σ.1 12 c = nI kn) (hk2 : kn ≤ 12) (hkl : ∀ i, i < kn → σ.1 13 (32 * c + i) = nI (kl i)) (hkb : ∀ i, i < kn → kl i < 32) (hlt : ∀ i, i < m0 → kl i ≠ l) (hm : m0 < kn) (hkm : kl m0 = l) : kX8_doAct σ [.inr (.inr 0), .inl (nI c)] = some ((finM (σ.1, pm_uj (σ.2) 8 (4 * c + r) (σ.2 16 (32 * c + m0))) c, some (.inl (-1)))) := by
  have key : ∃ x, kX8_doAct σ [.inr (.inr 0), .inl (nI c)] = some x ∧ x = (finM (σ.1, pm_uj (σ.2) 8 (4 * c + r) (σ.2 16 (32 * c + m0))) c, some (.inl (-1))) := by
    refine pR_met (post := fun x => x = (finM (σ.1, pm_uj (σ.2) 8 (4 * c + r) (σ.2 16 (32 * c + m0))) c, some (.inl (-1)))) rfl (Nat.le_of_ble_eq_true rfl) ?_
    show pR _ _ _ _ _ _ _ _ 0 [(0, .inr (.inr 0)), (1, .inl (nI c))] [] σ
    refine pr_bipush (v := nI 12) tX8_doAct_0 rfl ?_
    refine pr_iload_n tX8_doAct_2 1 rfl ?_
    refine pr_imul (v := (nI (12 * c))) tX8_doAct_3 (pk_mul _ _) ?_
    refine pr_aload_n tX8_doAct_4 0 rfl ?_
    refine pr_geta (j := 7) tX8_doAct_5 rfl rfl rfl rfl ?_
    refine pr_iload_n tX8_doAct_8 1 rfl ?_
    refine pr_ial tX8_doAct_9 c rfl rfl (by omega) (by decide) ?_
    refine pR_topi (y := (nI p)) (by simp [pm_ui, pm_uj, upd, vp_updL, hp]) ?_
    refine pr_iadd (v := (nI (12 * c + p))) tX8_doAct_10 (nI_add _ _) ?_
    refine pr_istore_n (L' := [(2, .inl (nI (12 * c + p))), (0, .inr (.inr 0)), (1, .inl (nI c))]) tX8_doAct_11 (by decide) rfl ?_
    refine pr_iconst (v := nI 4) tX8_doAct_12 rfl ?_
    refine pr_iload_n tX8_doAct_13 2 rfl ?_
    refine pr_imul (v := (nI (4 * c))) tX8_doAct_14 (pk_mul _ _) ?_
    refine pr_aload_n tX8_doAct_15 1 rfl ?_
    refine pr_geta (j := 4) tX8_doAct_16 rfl rfl rfl rfl ?_
    refine pr_iload_n tX8_doAct_19 0 rfl ?_
    refine pr_ial tX8_doAct_20 (12 * c + p) rfl rfl (by omega) (by decide) ?_
    refine pR_topi (y := (nI r)) (by simp [pm_ui, pm_uj, upd, vp_updL, h4]) ?_
    refine pr_iadd (v := (nI (4 * c + r))) tX8_doAct_21 (nI_add _ _) ?_
    refine pr_istore_n (L' := [(3, .inl (nI (4 * c + r))), (2, .inl (nI (12 * c + p))), (0, .inr (.inr 0)), (1, .inl (nI c))]) tX8_doAct_22 (by decide) rfl ?_
    refine pr_iconst (v := nI 4) tX8_doAct_23 rfl ?_
    refine pr_iload_n tX8_doAct_24 3 rfl ?_
    refine pr_imul (v := (nI (4 * c))) tX8_doAct_25 (pk_mul _ _) ?_
    refine pr_aload_n tX8_doAct_26 2 rfl ?_
    refine pr_geta (j := 5) tX8_doAct_27 rfl rfl rfl rfl ?_
    refine pr_iload_n tX8_doAct_30 1 rfl ?_
    refine pr_ial tX8_doAct_31 (12 * c + p) rfl rfl (by omega) (by decide) ?_
    refine pR_topi (y := (nI s)) (by simp [pm_ui, pm_uj, upd, vp_updL, h5]) ?_
    refine pr_iadd (v := (nI (4 * c + s))) tX8_doAct_32 (nI_add _ _) ?_
    refine pr_istore (L' := [(4, .inl (nI (4 * c + s))), (3, .inl (nI (4 * c + r))), (2, .inl (nI (12 * c + p))), (0, .inr (.inr 0)), (1, .inl (nI c))]) tX8_doAct_33 (by decide) rfl ?_
    refine pr_aload_n tX8_doAct_35 3 rfl ?_
    refine pr_geta (j := 3) tX8_doAct_36 rfl rfl rfl rfl ?_
    refine pr_iload_n tX8_doAct_39 2 rfl ?_
    refine pr_ial tX8_doAct_40 (12 * c + p) rfl rfl (by omega) (by decide) ?_
    refine pR_topi (y := (nI 1)) (by simp [pm_ui, pm_uj, upd, vp_updL, h3]) ?_
    refine pr_istore (L' := [(5, .inl (nI 1)), (4, .inl (nI (4 * c + s))), (3, .inl (nI (4 * c + r))), (2, .inl (nI (12 * c + p))), (0, .inr (.inr 0)), (1, .inl (nI c))]) tX8_doAct_41 (by decide) rfl ?_
    refine pr_iload tX8_doAct_43 0 rfl ?_
    refine pr_iconst (v := nI 1) tX8_doAct_45 rfl ?_
    refine pr_ic_ne (pc' := 264) tX8_doAct_46 rfl (fun hc46 => ?_) (fun hc46 => ?_)
    · skip
      exact absurd hc46 (by decide)
    · skip
      refine pr_aload_n tX8_doAct_49 4 rfl ?_
      refine pr_geta (j := 6) tX8_doAct_50 rfl rfl rfl rfl ?_
      refine pr_iload_n tX8_doAct_53 3 rfl ?_
      refine pr_lal tX8_doAct_54 (12 * c + p) rfl rfl (by omega) (by decide) ?_
      refine pr_aload_n tX8_doAct_55 4 rfl ?_
      refine pr_geta (j := 8) tX8_doAct_56 rfl rfl rfl rfl ?_
      refine pr_iload tX8_doAct_59 1 rfl ?_
      refine pr_lal tX8_doAct_61 (4 * c + s) rfl rfl (by omega) (by decide) ?_
      refine pr_ladd (v := ((σ.2 6 (12 * c + p)) + (σ.2 8 (4 * c + s)))) tX8_doAct_62 (rfl) ?_
      refine pr_callS tX8_doAct_63 rfl ⟨Nat.le_of_ble_eq_true rfl, Nat.le_of_ble_eq_true rfl, rfl⟩ ((ev_X8_leafOf _ _).trans (by rw [leafM, hlf])) ?_
      refine pR_eq (st' := [.inl (nI l)]) rfl rfl ?_
      refine pr_istore (L' := [(6, .inl (nI l)), (5, .inl (nI 1)), (4, .inl (nI (4 * c + s))), (3, .inl (nI (4 * c + r))), (2, .inl (nI (12 * c + p))), (0, .inr (.inr 0)), (1, .inl (nI c))]) tX8_doAct_66 (by decide) rfl ?_
      refine pr_aload_n tX8_doAct_68 5 rfl ?_
      refine pr_geta (j := 10) tX8_doAct_69 rfl rfl rfl rfl ?_
      refine pr_bipush (v := nI 32) tX8_doAct_72 rfl ?_
      refine pr_iload_n tX8_doAct_74 6 rfl ?_
      refine pr_imul (v := (nI (32 * c))) tX8_doAct_75 (pk_mul _ _) ?_
      refine pr_iload tX8_doAct_76 0 rfl ?_
      refine pr_iadd (v := (nI (32 * c + l))) tX8_doAct_78 (nI_add _ _) ?_
      refine pr_zal tX8_doAct_79 (32 * c + l) rfl rfl (by omega) (by decide) ?_
      refine pr_if_eq (pc' := 104) tX8_doAct_80 rfl (fun hc80 => ?_) (fun hc80 => ?_)
      · skip
        skip
        refine pr_iconst (v := nI 0) tX8_doAct_104 rfl ?_
        refine pr_istore (L' := [(7, .inl (nI 0)), (6, .inl (nI l)), (5, .inl (nI 1)), (4, .inl (nI (4 * c + s))), (3, .inl (nI (4 * c + r))), (2, .inl (nI (12 * c + p))), (0, .inr (.inr 0)), (1, .inl (nI c))]) tX8_doAct_105 (by decide) rfl ?_
        refine pR_sub (L' := [(7, .inl (nI 0)), (6, .inl (nI l)), (5, .inl (nI 1)), (4, .inl (nI (4 * c + s))), (3, .inl (nI (4 * c + r))), (2, .inl (nI (12 * c + p))), (1, .inl (nI c)), (0, .inr (.inr 0))]) [0, 1, 2, 3, 4, 5, 7, 6] rfl ?_
        refine lp_srch σ hc hl hkn hk2 hkl hkb (by omega) hlt (.inr hkm) ?_ m0 0 (by omega)
        refine pr_iload tX8_doAct_141 0 rfl ?_
        refine pr_aload_n tX8_doAct_143 7 rfl ?_
        refine pr_geta (j := 12) tX8_doAct_144 rfl rfl rfl rfl ?_
        refine pr_iload_n tX8_doAct_147 6 rfl ?_
        refine pr_ial tX8_doAct_148 c rfl rfl (by omega) (by decide) ?_
        refine pR_topi (y := (nI kn)) (by simp [pm_ui, pm_uj, upd, vp_updL, hkn]) ?_
        refine pr_ic_ne (pc' := 243) tX8_doAct_149 rfl (fun hc149 => ?_) (fun hc149 => ?_)
        · skip
          skip
          refine pr_aload_n tX8_doAct_243 7 rfl ?_
          refine pr_geta (j := 8) tX8_doAct_244 rfl rfl rfl rfl ?_
          refine pr_iload_n tX8_doAct_247 4 rfl ?_
          refine pr_aload_n tX8_doAct_248 7 rfl ?_
          refine pr_geta (j := 16) tX8_doAct_249 rfl rfl rfl rfl ?_
          refine pr_bipush (v := nI 32) tX8_doAct_252 rfl ?_
          refine pr_iload_n tX8_doAct_254 6 rfl ?_
          refine pr_imul (v := (nI (32 * c))) tX8_doAct_255 (pk_mul _ _) ?_
          refine pr_iload tX8_doAct_256 0 rfl ?_
          refine pr_iadd (v := (nI (32 * c + m0))) tX8_doAct_258 (nI_add _ _) ?_
          refine pr_lal tX8_doAct_259 (32 * c + m0) rfl rfl (by omega) (by decide) ?_
          refine pr_las tX8_doAct_260 (4 * c + r) rfl rfl (by omega) (by decide) ?_
          obtain ⟨σ1, eσ1⟩ : ∃ z : pST, z = (σ.1, pm_uj σ.2 8 (4 * c + r) (σ.2 16 (32 * c + m0))) := ⟨_, rfl⟩
          rw [← eσ1]
          refine pr_goto (pc' := 533) tX8_doAct_261 rfl ?_
          refine pR_sub (L' := [(1, .inl (nI c)), (0, .inr (.inr 0))]) [6, 7] rfl ?_
          rw [eσ1]
          refine pR_post (fun x hx => ?_) (lp_fin _ hc)
          rw [hx]
        · skip
          exact absurd ((nI_eq (by omega) (by omega)).mp (Decidable.not_not.mp hc149)) (by omega)
      · skip
        exact absurd hw hc80
  obtain ⟨x, h1, h2⟩ := key
  rw [h1, h2]

set_option maxRecDepth 100000 in
theorem ev_X8_doAct_1p (σ : pST) {c p : Nat} (hc : c < 16) (hp : σ.1 7 c = nI p) (hpl : p < 12) {r s : Nat} (hr : r < 4) (hs : s < 4) (h4 : σ.1 4 (12 * c + p) = nI r) (h5 : σ.1 5 (12 * c + p) = nI s) (h3 : σ.1 3 (12 * c + p) = nI 1) {l : Nat} (hl : l < 32) (hlf : lfA (σ.2 6 (12 * c + p) + σ.2 8 (4 * c + s)) = l) (hw : σ.1 10 (32 * c + l) = 0) {kn m0 : Nat} {kl : Nat → Nat} (hkn : σ.1 12 c = nI kn) (hk2 : kn ≤ 12) (hkl : ∀ i, i < kn → σ.1 13 (32 * c + i) = nI (kl i)) (hkb : ∀ i, i < kn → kl i < 32) (hlt : ∀ i, i < m0 → kl i ≠ l) (hm : m0 = kn) (hb : ∀ y, σ.1 22 y = 0 ∨ σ.1 22 y = 1) {ph w ru : Int32} {sv : Int64} (e29 : (seeS σ l c).1 0 29 = ph) (e27 : (seeS σ l c).1 0 27 = w) (e28 : (seeS σ l c).1 0 28 = ru) (e30 : (seeS σ l c).2 0 30 = sv) (hph : ¬ ph = 0) : kX8_doAct σ [.inr (.inr 0), .inl (nI c)] = some ((seeS σ l c, some (.inl w))) := by
  have key : ∃ x, kX8_doAct σ [.inr (.inr 0), .inl (nI c)] = some x ∧ x = (seeS σ l c, some (.inl w)) := by
    refine pR_met (post := fun x => x = (seeS σ l c, some (.inl w))) rfl (Nat.le_of_ble_eq_true rfl) ?_
    show pR _ _ _ _ _ _ _ _ 0 [(0, .inr (.inr 0)), (1, .inl (nI c))] [] σ
    refine pr_bipush (v := nI 12) tX8_doAct_0 rfl ?_
    refine pr_iload_n tX8_doAct_2 1 rfl ?_
    refine pr_imul (v := (nI (12 * c))) tX8_doAct_3 (pk_mul _ _) ?_
    refine pr_aload_n tX8_doAct_4 0 rfl ?_
    refine pr_geta (j := 7) tX8_doAct_5 rfl rfl rfl rfl ?_
    refine pr_iload_n tX8_doAct_8 1 rfl ?_
    refine pr_ial tX8_doAct_9 c rfl rfl (by omega) (by decide) ?_
    refine pR_topi (y := (nI p)) (by simp [pm_ui, pm_uj, upd, vp_updL, hp]) ?_
    refine pr_iadd (v := (nI (12 * c + p))) tX8_doAct_10 (nI_add _ _) ?_
    refine pr_istore_n (L' := [(2, .inl (nI (12 * c + p))), (0, .inr (.inr 0)), (1, .inl (nI c))]) tX8_doAct_11 (by decide) rfl ?_
    refine pr_iconst (v := nI 4) tX8_doAct_12 rfl ?_
    refine pr_iload_n tX8_doAct_13 2 rfl ?_
    refine pr_imul (v := (nI (4 * c))) tX8_doAct_14 (pk_mul _ _) ?_
    refine pr_aload_n tX8_doAct_15 1 rfl ?_
    refine pr_geta (j := 4) tX8_doAct_16 rfl rfl rfl rfl ?_
    refine pr_iload_n tX8_doAct_19 0 rfl ?_
    refine pr_ial tX8_doAct_20 (12 * c + p) rfl rfl (by omega) (by decide) ?_
    refine pR_topi (y := (nI r)) (by simp [pm_ui, pm_uj, upd, vp_updL, h4]) ?_
    refine pr_iadd (v := (nI (4 * c + r))) tX8_doAct_21 (nI_add _ _) ?_
    refine pr_istore_n (L' := [(3, .inl (nI (4 * c + r))), (2, .inl (nI (12 * c + p))), (0, .inr (.inr 0)), (1, .inl (nI c))]) tX8_doAct_22 (by decide) rfl ?_
    refine pr_iconst (v := nI 4) tX8_doAct_23 rfl ?_
    refine pr_iload_n tX8_doAct_24 3 rfl ?_
    refine pr_imul (v := (nI (4 * c))) tX8_doAct_25 (pk_mul _ _) ?_
    refine pr_aload_n tX8_doAct_26 2 rfl ?_
    refine pr_geta (j := 5) tX8_doAct_27 rfl rfl rfl rfl ?_
    refine pr_iload_n tX8_doAct_30 1 rfl ?_
    refine pr_ial tX8_doAct_31 (12 * c + p) rfl rfl (by omega) (by decide) ?_
    refine pR_topi (y := (nI s)) (by simp [pm_ui, pm_uj, upd, vp_updL, h5]) ?_
    refine pr_iadd (v := (nI (4 * c + s))) tX8_doAct_32 (nI_add _ _) ?_
    refine pr_istore (L' := [(4, .inl (nI (4 * c + s))), (3, .inl (nI (4 * c + r))), (2, .inl (nI (12 * c + p))), (0, .inr (.inr 0)), (1, .inl (nI c))]) tX8_doAct_33 (by decide) rfl ?_
    refine pr_aload_n tX8_doAct_35 3 rfl ?_
    refine pr_geta (j := 3) tX8_doAct_36 rfl rfl rfl rfl ?_
    refine pr_iload_n tX8_doAct_39 2 rfl ?_
    refine pr_ial tX8_doAct_40 (12 * c + p) rfl rfl (by omega) (by decide) ?_
    refine pR_topi (y := (nI 1)) (by simp [pm_ui, pm_uj, upd, vp_updL, h3]) ?_
    refine pr_istore (L' := [(5, .inl (nI 1)), (4, .inl (nI (4 * c + s))), (3, .inl (nI (4 * c + r))), (2, .inl (nI (12 * c + p))), (0, .inr (.inr 0)), (1, .inl (nI c))]) tX8_doAct_41 (by decide) rfl ?_
    refine pr_iload tX8_doAct_43 0 rfl ?_
    refine pr_iconst (v := nI 1) tX8_doAct_45 rfl ?_
    refine pr_ic_ne (pc' := 264) tX8_doAct_46 rfl (fun hc46 => ?_) (fun hc46 => ?_)
    · skip
      exact absurd hc46 (by decide)
    · skip
      refine pr_aload_n tX8_doAct_49 4 rfl ?_
      refine pr_geta (j := 6) tX8_doAct_50 rfl rfl rfl rfl ?_
      refine pr_iload_n tX8_doAct_53 3 rfl ?_
      refine pr_lal tX8_doAct_54 (12 * c + p) rfl rfl (by omega) (by decide) ?_
      refine pr_aload_n tX8_doAct_55 4 rfl ?_
      refine pr_geta (j := 8) tX8_doAct_56 rfl rfl rfl rfl ?_
      refine pr_iload tX8_doAct_59 1 rfl ?_
      refine pr_lal tX8_doAct_61 (4 * c + s) rfl rfl (by omega) (by decide) ?_
      refine pr_ladd (v := ((σ.2 6 (12 * c + p)) + (σ.2 8 (4 * c + s)))) tX8_doAct_62 (rfl) ?_
      refine pr_callS tX8_doAct_63 rfl ⟨Nat.le_of_ble_eq_true rfl, Nat.le_of_ble_eq_true rfl, rfl⟩ ((ev_X8_leafOf _ _).trans (by rw [leafM, hlf])) ?_
      refine pR_eq (st' := [.inl (nI l)]) rfl rfl ?_
      refine pr_istore (L' := [(6, .inl (nI l)), (5, .inl (nI 1)), (4, .inl (nI (4 * c + s))), (3, .inl (nI (4 * c + r))), (2, .inl (nI (12 * c + p))), (0, .inr (.inr 0)), (1, .inl (nI c))]) tX8_doAct_66 (by decide) rfl ?_
      refine pr_aload_n tX8_doAct_68 5 rfl ?_
      refine pr_geta (j := 10) tX8_doAct_69 rfl rfl rfl rfl ?_
      refine pr_bipush (v := nI 32) tX8_doAct_72 rfl ?_
      refine pr_iload_n tX8_doAct_74 6 rfl ?_
      refine pr_imul (v := (nI (32 * c))) tX8_doAct_75 (pk_mul _ _) ?_
      refine pr_iload tX8_doAct_76 0 rfl ?_
      refine pr_iadd (v := (nI (32 * c + l))) tX8_doAct_78 (nI_add _ _) ?_
      refine pr_zal tX8_doAct_79 (32 * c + l) rfl rfl (by omega) (by decide) ?_
      refine pr_if_eq (pc' := 104) tX8_doAct_80 rfl (fun hc80 => ?_) (fun hc80 => ?_)
      · skip
        skip
        refine pr_iconst (v := nI 0) tX8_doAct_104 rfl ?_
        refine pr_istore (L' := [(7, .inl (nI 0)), (6, .inl (nI l)), (5, .inl (nI 1)), (4, .inl (nI (4 * c + s))), (3, .inl (nI (4 * c + r))), (2, .inl (nI (12 * c + p))), (0, .inr (.inr 0)), (1, .inl (nI c))]) tX8_doAct_105 (by decide) rfl ?_
        refine pR_sub (L' := [(7, .inl (nI 0)), (6, .inl (nI l)), (5, .inl (nI 1)), (4, .inl (nI (4 * c + s))), (3, .inl (nI (4 * c + r))), (2, .inl (nI (12 * c + p))), (1, .inl (nI c)), (0, .inr (.inr 0))]) [0, 1, 2, 3, 4, 5, 7, 6] rfl ?_
        refine lp_srch σ hc hl hkn hk2 hkl hkb (by omega) hlt (.inl hm) ?_ m0 0 (by omega)
        refine pr_iload tX8_doAct_141 0 rfl ?_
        refine pr_aload_n tX8_doAct_143 7 rfl ?_
        refine pr_geta (j := 12) tX8_doAct_144 rfl rfl rfl rfl ?_
        refine pr_iload_n tX8_doAct_147 6 rfl ?_
        refine pr_ial tX8_doAct_148 c rfl rfl (by omega) (by decide) ?_
        refine pR_topi (y := (nI kn)) (by simp [pm_ui, pm_uj, upd, vp_updL, hkn]) ?_
        refine pr_ic_ne (pc' := 243) tX8_doAct_149 rfl (fun hc149 => ?_) (fun hc149 => ?_)
        · skip
          exact absurd ((nI_eq (by omega) (by omega)).mpr hm) hc149
        · skip
          skip
          refine pr_aload_n tX8_doAct_152 7 rfl ?_
          refine pr_iload_n tX8_doAct_153 6 rfl ?_
          refine pr_iload tX8_doAct_154 1 rfl ?_
          refine pr_callV tX8_doAct_156 rfl ⟨Nat.le_of_ble_eq_true rfl, Nat.le_of_ble_eq_true rfl, rfl⟩ (ev_X8_see σ (by omega) hl hb) ?_
          refine pR_eq (st' := []) rfl rfl ?_
          refine pr_aload_n tX8_doAct_159 7 rfl ?_
          refine pr_get1 tX8_doAct_160 rfl rfl rfl ?_
          refine pR_topi (y := ph) (by simp [pm_ui, pm_uj, upd, vp_updL, e29]) ?_
          refine pr_if_eq (pc' := 171) tX8_doAct_163 rfl (fun hc163 => ?_) (fun hc163 => ?_)
          · skip
            exact absurd hc163 hph
          · skip
            skip
            refine pr_aload_n tX8_doAct_166 7 rfl ?_
            refine pr_get0 tX8_doAct_167 rfl rfl rfl ?_
            refine pR_topi (y := w) (by simp [pm_ui, pm_uj, upd, vp_updL, e27]) ?_
            refine pr_iret tX8_doAct_170 rfl ?_
            rfl
      · skip
        exact absurd hw hc80
  obtain ⟨x, h1, h2⟩ := key
  rw [h1, h2]

set_option maxRecDepth 100000 in
theorem ev_X8_doAct_1s (σ : pST) {c p : Nat} (hc : c < 16) (hp : σ.1 7 c = nI p) (hpl : p < 12) {r s : Nat} (hr : r < 4) (hs : s < 4) (h4 : σ.1 4 (12 * c + p) = nI r) (h5 : σ.1 5 (12 * c + p) = nI s) (h3 : σ.1 3 (12 * c + p) = nI 1) {l : Nat} (hl : l < 32) (hlf : lfA (σ.2 6 (12 * c + p) + σ.2 8 (4 * c + s)) = l) (hw : σ.1 10 (32 * c + l) = 0) {kn m0 : Nat} {kl : Nat → Nat} (hkn : σ.1 12 c = nI kn) (hk2 : kn ≤ 12) (hkl : ∀ i, i < kn → σ.1 13 (32 * c + i) = nI (kl i)) (hkb : ∀ i, i < kn → kl i < 32) (hlt : ∀ i, i < m0 → kl i ≠ l) (hm : m0 = kn) (hb : ∀ y, σ.1 22 y = 0 ∨ σ.1 22 y = 1) {ph w ru : Int32} {sv : Int64} (e29 : (seeS σ l c).1 0 29 = ph) (e27 : (seeS σ l c).1 0 27 = w) (e28 : (seeS σ l c).1 0 28 = ru) (e30 : (seeS σ l c).2 0 30 = sv) (hph : ph = 0) : kX8_doAct σ [.inr (.inr 0), .inl (nI c)] = some ((finM (pm_ui (pm_ui (pm_ui (pm_ui ((seeS σ l c).1) 13 (32 * c + m0) (nI l)) 14 (32 * c + m0) w) 15 (32 * c + m0) ru) 12 c (nI (kn + 1)), pm_uj (pm_uj ((seeS σ l c).2) 16 (32 * c + m0) sv) 8 (4 * c + r) sv) c, some (.inl (-1)))) := by
  have key : ∃ x, kX8_doAct σ [.inr (.inr 0), .inl (nI c)] = some x ∧ x = (finM (pm_ui (pm_ui (pm_ui (pm_ui ((seeS σ l c).1) 13 (32 * c + m0) (nI l)) 14 (32 * c + m0) w) 15 (32 * c + m0) ru) 12 c (nI (kn + 1)), pm_uj (pm_uj ((seeS σ l c).2) 16 (32 * c + m0) sv) 8 (4 * c + r) sv) c, some (.inl (-1))) := by
    refine pR_met (post := fun x => x = (finM (pm_ui (pm_ui (pm_ui (pm_ui ((seeS σ l c).1) 13 (32 * c + m0) (nI l)) 14 (32 * c + m0) w) 15 (32 * c + m0) ru) 12 c (nI (kn + 1)), pm_uj (pm_uj ((seeS σ l c).2) 16 (32 * c + m0) sv) 8 (4 * c + r) sv) c, some (.inl (-1)))) rfl (Nat.le_of_ble_eq_true rfl) ?_
    show pR _ _ _ _ _ _ _ _ 0 [(0, .inr (.inr 0)), (1, .inl (nI c))] [] σ
    refine pr_bipush (v := nI 12) tX8_doAct_0 rfl ?_
    refine pr_iload_n tX8_doAct_2 1 rfl ?_
    refine pr_imul (v := (nI (12 * c))) tX8_doAct_3 (pk_mul _ _) ?_
    refine pr_aload_n tX8_doAct_4 0 rfl ?_
    refine pr_geta (j := 7) tX8_doAct_5 rfl rfl rfl rfl ?_
    refine pr_iload_n tX8_doAct_8 1 rfl ?_
    refine pr_ial tX8_doAct_9 c rfl rfl (by omega) (by decide) ?_
    refine pR_topi (y := (nI p)) (by simp [pm_ui, pm_uj, upd, vp_updL, hp]) ?_
    refine pr_iadd (v := (nI (12 * c + p))) tX8_doAct_10 (nI_add _ _) ?_
    refine pr_istore_n (L' := [(2, .inl (nI (12 * c + p))), (0, .inr (.inr 0)), (1, .inl (nI c))]) tX8_doAct_11 (by decide) rfl ?_
    refine pr_iconst (v := nI 4) tX8_doAct_12 rfl ?_
    refine pr_iload_n tX8_doAct_13 2 rfl ?_
    refine pr_imul (v := (nI (4 * c))) tX8_doAct_14 (pk_mul _ _) ?_
    refine pr_aload_n tX8_doAct_15 1 rfl ?_
    refine pr_geta (j := 4) tX8_doAct_16 rfl rfl rfl rfl ?_
    refine pr_iload_n tX8_doAct_19 0 rfl ?_
    refine pr_ial tX8_doAct_20 (12 * c + p) rfl rfl (by omega) (by decide) ?_
    refine pR_topi (y := (nI r)) (by simp [pm_ui, pm_uj, upd, vp_updL, h4]) ?_
    refine pr_iadd (v := (nI (4 * c + r))) tX8_doAct_21 (nI_add _ _) ?_
    refine pr_istore_n (L' := [(3, .inl (nI (4 * c + r))), (2, .inl (nI (12 * c + p))), (0, .inr (.inr 0)), (1, .inl (nI c))]) tX8_doAct_22 (by decide) rfl ?_
    refine pr_iconst (v := nI 4) tX8_doAct_23 rfl ?_
    refine pr_iload_n tX8_doAct_24 3 rfl ?_
    refine pr_imul (v := (nI (4 * c))) tX8_doAct_25 (pk_mul _ _) ?_
    refine pr_aload_n tX8_doAct_26 2 rfl ?_
    refine pr_geta (j := 5) tX8_doAct_27 rfl rfl rfl rfl ?_
    refine pr_iload_n tX8_doAct_30 1 rfl ?_
    refine pr_ial tX8_doAct_31 (12 * c + p) rfl rfl (by omega) (by decide) ?_
    refine pR_topi (y := (nI s)) (by simp [pm_ui, pm_uj, upd, vp_updL, h5]) ?_
    refine pr_iadd (v := (nI (4 * c + s))) tX8_doAct_32 (nI_add _ _) ?_
    refine pr_istore (L' := [(4, .inl (nI (4 * c + s))), (3, .inl (nI (4 * c + r))), (2, .inl (nI (12 * c + p))), (0, .inr (.inr 0)), (1, .inl (nI c))]) tX8_doAct_33 (by decide) rfl ?_
    refine pr_aload_n tX8_doAct_35 3 rfl ?_
    refine pr_geta (j := 3) tX8_doAct_36 rfl rfl rfl rfl ?_
    refine pr_iload_n tX8_doAct_39 2 rfl ?_
    refine pr_ial tX8_doAct_40 (12 * c + p) rfl rfl (by omega) (by decide) ?_
    refine pR_topi (y := (nI 1)) (by simp [pm_ui, pm_uj, upd, vp_updL, h3]) ?_
    refine pr_istore (L' := [(5, .inl (nI 1)), (4, .inl (nI (4 * c + s))), (3, .inl (nI (4 * c + r))), (2, .inl (nI (12 * c + p))), (0, .inr (.inr 0)), (1, .inl (nI c))]) tX8_doAct_41 (by decide) rfl ?_
    refine pr_iload tX8_doAct_43 0 rfl ?_
    refine pr_iconst (v := nI 1) tX8_doAct_45 rfl ?_
    refine pr_ic_ne (pc' := 264) tX8_doAct_46 rfl (fun hc46 => ?_) (fun hc46 => ?_)
    · skip
      exact absurd hc46 (by decide)
    · skip
      refine pr_aload_n tX8_doAct_49 4 rfl ?_
      refine pr_geta (j := 6) tX8_doAct_50 rfl rfl rfl rfl ?_
      refine pr_iload_n tX8_doAct_53 3 rfl ?_
      refine pr_lal tX8_doAct_54 (12 * c + p) rfl rfl (by omega) (by decide) ?_
      refine pr_aload_n tX8_doAct_55 4 rfl ?_
      refine pr_geta (j := 8) tX8_doAct_56 rfl rfl rfl rfl ?_
      refine pr_iload tX8_doAct_59 1 rfl ?_
      refine pr_lal tX8_doAct_61 (4 * c + s) rfl rfl (by omega) (by decide) ?_
      refine pr_ladd (v := ((σ.2 6 (12 * c + p)) + (σ.2 8 (4 * c + s)))) tX8_doAct_62 (rfl) ?_
      refine pr_callS tX8_doAct_63 rfl ⟨Nat.le_of_ble_eq_true rfl, Nat.le_of_ble_eq_true rfl, rfl⟩ ((ev_X8_leafOf _ _).trans (by rw [leafM, hlf])) ?_
      refine pR_eq (st' := [.inl (nI l)]) rfl rfl ?_
      refine pr_istore (L' := [(6, .inl (nI l)), (5, .inl (nI 1)), (4, .inl (nI (4 * c + s))), (3, .inl (nI (4 * c + r))), (2, .inl (nI (12 * c + p))), (0, .inr (.inr 0)), (1, .inl (nI c))]) tX8_doAct_66 (by decide) rfl ?_
      refine pr_aload_n tX8_doAct_68 5 rfl ?_
      refine pr_geta (j := 10) tX8_doAct_69 rfl rfl rfl rfl ?_
      refine pr_bipush (v := nI 32) tX8_doAct_72 rfl ?_
      refine pr_iload_n tX8_doAct_74 6 rfl ?_
      refine pr_imul (v := (nI (32 * c))) tX8_doAct_75 (pk_mul _ _) ?_
      refine pr_iload tX8_doAct_76 0 rfl ?_
      refine pr_iadd (v := (nI (32 * c + l))) tX8_doAct_78 (nI_add _ _) ?_
      refine pr_zal tX8_doAct_79 (32 * c + l) rfl rfl (by omega) (by decide) ?_
      refine pr_if_eq (pc' := 104) tX8_doAct_80 rfl (fun hc80 => ?_) (fun hc80 => ?_)
      · skip
        skip
        refine pr_iconst (v := nI 0) tX8_doAct_104 rfl ?_
        refine pr_istore (L' := [(7, .inl (nI 0)), (6, .inl (nI l)), (5, .inl (nI 1)), (4, .inl (nI (4 * c + s))), (3, .inl (nI (4 * c + r))), (2, .inl (nI (12 * c + p))), (0, .inr (.inr 0)), (1, .inl (nI c))]) tX8_doAct_105 (by decide) rfl ?_
        refine pR_sub (L' := [(7, .inl (nI 0)), (6, .inl (nI l)), (5, .inl (nI 1)), (4, .inl (nI (4 * c + s))), (3, .inl (nI (4 * c + r))), (2, .inl (nI (12 * c + p))), (1, .inl (nI c)), (0, .inr (.inr 0))]) [0, 1, 2, 3, 4, 5, 7, 6] rfl ?_
        refine lp_srch σ hc hl hkn hk2 hkl hkb (by omega) hlt (.inl hm) ?_ m0 0 (by omega)
        refine pr_iload tX8_doAct_141 0 rfl ?_
        refine pr_aload_n tX8_doAct_143 7 rfl ?_
        refine pr_geta (j := 12) tX8_doAct_144 rfl rfl rfl rfl ?_
        refine pr_iload_n tX8_doAct_147 6 rfl ?_
        refine pr_ial tX8_doAct_148 c rfl rfl (by omega) (by decide) ?_
        refine pR_topi (y := (nI kn)) (by simp [pm_ui, pm_uj, upd, vp_updL, hkn]) ?_
        refine pr_ic_ne (pc' := 243) tX8_doAct_149 rfl (fun hc149 => ?_) (fun hc149 => ?_)
        · skip
          exact absurd ((nI_eq (by omega) (by omega)).mpr hm) hc149
        · skip
          skip
          refine pr_aload_n tX8_doAct_152 7 rfl ?_
          refine pr_iload_n tX8_doAct_153 6 rfl ?_
          refine pr_iload tX8_doAct_154 1 rfl ?_
          refine pr_callV tX8_doAct_156 rfl ⟨Nat.le_of_ble_eq_true rfl, Nat.le_of_ble_eq_true rfl, rfl⟩ (ev_X8_see σ (by omega) hl hb) ?_
          refine pR_eq (st' := []) rfl rfl ?_
          refine pr_aload_n tX8_doAct_159 7 rfl ?_
          refine pr_get1 tX8_doAct_160 rfl rfl rfl ?_
          refine pR_topi (y := ph) (by simp [pm_ui, pm_uj, upd, vp_updL, e29]) ?_
          refine pr_if_eq (pc' := 171) tX8_doAct_163 rfl (fun hc163 => ?_) (fun hc163 => ?_)
          · skip
            skip
            refine pr_aload_n tX8_doAct_171 7 rfl ?_
            refine pr_geta (j := 13) tX8_doAct_172 rfl rfl rfl rfl ?_
            refine pr_bipush (v := nI 32) tX8_doAct_175 rfl ?_
            refine pr_iload_n tX8_doAct_177 6 rfl ?_
            refine pr_imul (v := (nI (32 * c))) tX8_doAct_178 (pk_mul _ _) ?_
            refine pr_iload tX8_doAct_179 0 rfl ?_
            refine pr_iadd (v := (nI (32 * c + m0))) tX8_doAct_181 (nI_add _ _) ?_
            refine pr_iload tX8_doAct_182 1 rfl ?_
            refine pr_ias tX8_doAct_184 (32 * c + m0) rfl rfl (by omega) (by decide) ?_
            obtain ⟨σ1, eσ1⟩ : ∃ z : pST, z = (pm_ui (seeS σ l c).1 13 (32 * c + m0) (nI l), (seeS σ l c).2) := ⟨_, rfl⟩
            rw [← eσ1]
            refine pr_aload_n tX8_doAct_185 7 rfl ?_
            refine pr_geta (j := 14) tX8_doAct_186 rfl rfl rfl rfl ?_
            refine pr_bipush (v := nI 32) tX8_doAct_189 rfl ?_
            refine pr_iload_n tX8_doAct_191 6 rfl ?_
            refine pr_imul (v := (nI (32 * c))) tX8_doAct_192 (pk_mul _ _) ?_
            refine pr_iload tX8_doAct_193 0 rfl ?_
            refine pr_iadd (v := (nI (32 * c + m0))) tX8_doAct_195 (nI_add _ _) ?_
            refine pr_aload_n tX8_doAct_196 7 rfl ?_
            refine pr_get0 tX8_doAct_197 rfl rfl rfl ?_
            refine pR_topi (y := w) (by simp [eσ1, pm_ui, pm_uj, upd, vp_updL, e27]) ?_
            refine pr_ias tX8_doAct_200 (32 * c + m0) rfl rfl (by omega) (by decide) ?_
            obtain ⟨σ2, eσ2⟩ : ∃ z : pST, z = (pm_ui σ1.1 14 (32 * c + m0) w, σ1.2) := ⟨_, rfl⟩
            rw [← eσ2]
            refine pr_aload_n tX8_doAct_201 7 rfl ?_
            refine pr_geta (j := 15) tX8_doAct_202 rfl rfl rfl rfl ?_
            refine pr_bipush (v := nI 32) tX8_doAct_205 rfl ?_
            refine pr_iload_n tX8_doAct_207 6 rfl ?_
            refine pr_imul (v := (nI (32 * c))) tX8_doAct_208 (pk_mul _ _) ?_
            refine pr_iload tX8_doAct_209 0 rfl ?_
            refine pr_iadd (v := (nI (32 * c + m0))) tX8_doAct_211 (nI_add _ _) ?_
            refine pr_aload_n tX8_doAct_212 7 rfl ?_
            refine pr_get0 tX8_doAct_213 rfl rfl rfl ?_
            refine pR_topi (y := ru) (by simp [eσ1, eσ2, pm_ui, pm_uj, upd, vp_updL, e28]) ?_
            refine pr_ias tX8_doAct_216 (32 * c + m0) rfl rfl (by omega) (by decide) ?_
            obtain ⟨σ3, eσ3⟩ : ∃ z : pST, z = (pm_ui σ2.1 15 (32 * c + m0) ru, σ2.2) := ⟨_, rfl⟩
            rw [← eσ3]
            refine pr_aload_n tX8_doAct_217 7 rfl ?_
            refine pr_geta (j := 16) tX8_doAct_218 rfl rfl rfl rfl ?_
            refine pr_bipush (v := nI 32) tX8_doAct_221 rfl ?_
            refine pr_iload_n tX8_doAct_223 6 rfl ?_
            refine pr_imul (v := (nI (32 * c))) tX8_doAct_224 (pk_mul _ _) ?_
            refine pr_iload tX8_doAct_225 0 rfl ?_
            refine pr_iadd (v := (nI (32 * c + m0))) tX8_doAct_227 (nI_add _ _) ?_
            refine pr_aload_n tX8_doAct_228 7 rfl ?_
            refine pr_get2 tX8_doAct_229 rfl rfl rfl ?_
            refine pR_topl (y := sv) (by simp [eσ1, eσ2, eσ3, pm_ui, pm_uj, upd, vp_updL, e30]) ?_
            refine pr_las tX8_doAct_232 (32 * c + m0) rfl rfl (by omega) (by decide) ?_
            obtain ⟨σ4, eσ4⟩ : ∃ z : pST, z = (σ3.1, pm_uj σ3.2 16 (32 * c + m0) sv) := ⟨_, rfl⟩
            rw [← eσ4]
            refine pr_aload_n tX8_doAct_233 7 rfl ?_
            refine pr_geta (j := 12) tX8_doAct_234 rfl rfl rfl rfl ?_
            refine pr_iload_n tX8_doAct_237 6 rfl ?_
            refine pr_dup2 tX8_doAct_238 ⟨rfl, rfl⟩ ?_
            refine pr_ial tX8_doAct_239 c rfl rfl (by omega) (by decide) ?_
            refine pR_topi (y := (nI kn)) (by simp [eσ1, eσ2, eσ3, eσ4, pm_ui, pm_uj, upd, vp_updL, (seeS_o (σ := σ) (k := l) (show 12 ≠ 0 by decide) c).1, hkn]) ?_
            refine pr_iconst (v := nI 1) tX8_doAct_240 rfl ?_
            refine pr_iadd (v := (nI (kn + 1))) tX8_doAct_241 (nI_add _ _) ?_
            refine pr_ias tX8_doAct_242 c rfl rfl (by omega) (by decide) ?_
            obtain ⟨σ5, eσ5⟩ : ∃ z : pST, z = (pm_ui σ4.1 12 c (nI (kn + 1)), σ4.2) := ⟨_, rfl⟩
            rw [← eσ5]
            refine pr_aload_n tX8_doAct_243 7 rfl ?_
            refine pr_geta (j := 8) tX8_doAct_244 rfl rfl rfl rfl ?_
            refine pr_iload_n tX8_doAct_247 4 rfl ?_
            refine pr_aload_n tX8_doAct_248 7 rfl ?_
            refine pr_geta (j := 16) tX8_doAct_249 rfl rfl rfl rfl ?_
            refine pr_bipush (v := nI 32) tX8_doAct_252 rfl ?_
            refine pr_iload_n tX8_doAct_254 6 rfl ?_
            refine pr_imul (v := (nI (32 * c))) tX8_doAct_255 (pk_mul _ _) ?_
            refine pr_iload tX8_doAct_256 0 rfl ?_
            refine pr_iadd (v := (nI (32 * c + m0))) tX8_doAct_258 (nI_add _ _) ?_
            refine pr_lal tX8_doAct_259 (32 * c + m0) rfl rfl (by omega) (by decide) ?_
            refine pR_topl (y := sv) (by simp [eσ1, eσ2, eσ3, eσ4, eσ5, pm_ui, pm_uj, upd, vp_updL]) ?_
            refine pr_las tX8_doAct_260 (4 * c + r) rfl rfl (by omega) (by decide) ?_
            obtain ⟨σ6, eσ6⟩ : ∃ z : pST, z = (σ5.1, pm_uj σ5.2 8 (4 * c + r) sv) := ⟨_, rfl⟩
            rw [← eσ6]
            refine pr_goto (pc' := 533) tX8_doAct_261 rfl ?_
            refine pR_sub (L' := [(1, .inl (nI c)), (0, .inr (.inr 0))]) [6, 7] rfl ?_
            rw [eσ6, eσ5, eσ4, eσ3, eσ2, eσ1]
            refine pR_post (fun x hx => ?_) (lp_fin _ hc)
            rw [hx]
          · skip
            exact absurd hph hc163
      · skip
        exact absurd hw hc80
  obtain ⟨x, h1, h2⟩ := key
  rw [h1, h2]
