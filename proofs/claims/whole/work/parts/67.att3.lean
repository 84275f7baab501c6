/-- the end of doNext: next, done and doneInAll one more -/
def finX (τ : pST) (a : Nat) : pST := (pm_ui (pm_ui (pm_ui τ.1 a 10 (τ.1 a 10 + 1)) a 3 (τ.1 a 3 + 1)) a 2 (τ.1 a 2 + 1), τ.2)
set_option maxRecDepth 100000 in
theorem ev_X0_doNext_o (σ : pST) {a : Nat} (ha : isA a) {t : Nat} {n c ac p : Nat} (hn : n ≤ 16) (hcn : σ.1 2 0 = nI n) (hc : c < 16) (hac : σ.1 3 c = nI ac) (hal : ac ≤ 12) (hp : p < 1000) (hs : σ.1 a 0 = nI c) (hx : σ.1 a 10 = nI p) (ho : ¬ (σ.1 a 4 = 0 ∧ c < n ∧ p < ac)) : kX0_doNext σ [.inr (.inr a), .inr (.inr 2), .inr (.inr t)] = some ((σ, some (.inl (-1)))) := by
  have key : ∃ x, kX0_doNext σ [.inr (.inr a), .inr (.inr 2), .inr (.inr t)] = some x ∧ x = (σ, some (.inl (-1))) := by
    refine pR_met (post := fun x => x = (σ, some (.inl (-1)))) ha.1 (Nat.le_of_ble_eq_true rfl) ?_
    show pR _ _ _ _ _ _ _ _ 0 [(0, .inr (.inr a)), (1, .inr (.inr 2)), (2, .inr (.inr t))] [] σ
    refine pr_aload_n tX0_doNext_0 0 rfl ?_
    refine pr_aload_n tX0_doNext_1 1 rfl ?_
    refine pr_callV tX0_doNext_2 rfl ⟨Nat.le_of_ble_eq_true rfl, Nat.le_of_ble_eq_true rfl, rfl⟩ ((ev_X0_isOver σ ha hn hcn hc hac hal hp hs hx).trans (by rw [if_neg ho])) ?_
    refine pR_eq (st' := [.inl 1]) rfl rfl ?_
    refine pr_if_eq (pc' := 10) tX0_doNext_5 rfl (fun hc5 => ?_) (fun hc5 => ?_)
    · skip
      exact absurd hc5 (by decide)
    · skip
      skip
      refine pr_iconst (v := -1) tX0_doNext_8 rfl ?_
      refine pr_iret tX0_doNext_9 rfl ?_
      rfl
  obtain ⟨x, h1, h2⟩ := key
  rw [h1, h2]

set_option maxRecDepth 100000 in
theorem ev_X0_doNext_a (σ : pST) {a : Nat} (ha : isA a) {t : Nat} {n c ac p : Nat} (hn : n ≤ 16) (hcn : σ.1 2 0 = nI n) (hc : c < 16) (hac : σ.1 3 c = nI ac) (hal : ac ≤ 12) (hp : p < 1000) (hs : σ.1 a 0 = nI c) (hx : σ.1 a 10 = nI p) (ho : σ.1 a 4 = 0 ∧ c < n ∧ p < ac) {kd r s : Nat} (hkd : kd ≤ 8) (h4 : σ.1 4 (c * 12 + p) = nI kd) (h5 : σ.1 5 (c * 12 + p) = nI r) (h6 : σ.1 6 (c * 12 + p) = nI s) (hk1 : kd ≠ 1) {ρ : pST} (hf : kX0_perform σ [.inr (.inr a), .inl (nI kd), .inl (nI r), .inl (nI s), .inr (.inl (σ.2 7 (c * 12 + p)))] = some (ρ, none)) : kX0_doNext σ [.inr (.inr a), .inr (.inr 2), .inr (.inr t)] = some ((finX ρ a, some (.inl (-1)))) := by
  have key : ∃ x, kX0_doNext σ [.inr (.inr a), .inr (.inr 2), .inr (.inr t)] = some x ∧ x = (finX ρ a, some (.inl (-1))) := by
    refine pR_met (post := fun x => x = (finX ρ a, some (.inl (-1)))) ha.1 (Nat.le_of_ble_eq_true rfl) ?_
    show pR _ _ _ _ _ _ _ _ 0 [(0, .inr (.inr a)), (1, .inr (.inr 2)), (2, .inr (.inr t))] [] σ
    refine pr_aload_n tX0_doNext_0 0 rfl ?_
    refine pr_aload_n tX0_doNext_1 1 rfl ?_
    refine pr_callV tX0_doNext_2 rfl ⟨Nat.le_of_ble_eq_true rfl, Nat.le_of_ble_eq_true rfl, rfl⟩ ((ev_X0_isOver σ ha hn hcn hc hac hal hp hs hx).trans (by rw [if_pos ho])) ?_
    refine pR_eq (st' := [.inl 0]) rfl rfl ?_
    refine pr_if_eq (pc' := 10) tX0_doNext_5 rfl (fun hc5 => ?_) (fun hc5 => ?_)
    · skip
      skip
      refine pr_aload_n tX0_doNext_10 0 rfl ?_
      refine pr_get3 tX0_doNext_11 rfl ha.1 rfl ?_
      refine pR_topi (y := (nI c)) (by simp [pm_ui, pm_uj, upd, vp_updL, hs]) ?_
      refine pr_bipush (v := nI 12) tX0_doNext_14 rfl ?_
      refine pr_imul (v := (nI (c * 12))) tX0_doNext_16 (pk_mul _ _) ?_
      refine pr_aload_n tX0_doNext_17 0 rfl ?_
      refine pr_get0 tX0_doNext_18 rfl ha.1 rfl ?_
      refine pR_topi (y := (nI p)) (by simp [pm_ui, pm_uj, upd, vp_updL, hx]) ?_
      refine pr_iadd (v := (nI (c * 12 + p))) tX0_doNext_21 (nI_add _ _) ?_
      refine pr_istore_n (L' := [(3, .inl (nI (c * 12 + p))), (0, .inr (.inr a)), (1, .inr (.inr 2)), (2, .inr (.inr t))]) tX0_doNext_22 (by decide) rfl ?_
      refine pr_aload_n tX0_doNext_23 2 rfl ?_
      refine pr_geta (j := 4) tX0_doNext_24 rfl rfl rfl rfl ?_
      refine pr_iload_n tX0_doNext_27 0 rfl ?_
      refine pr_ial tX0_doNext_28 (c * 12 + p) rfl rfl (by omega) (by decide) ?_
      refine pR_topi (y := (nI kd)) (by simp [pm_ui, pm_uj, upd, vp_updL, h4]) ?_
      refine pr_istore (L' := [(4, .inl (nI kd)), (3, .inl (nI (c * 12 + p))), (0, .inr (.inr a)), (1, .inr (.inr 2)), (2, .inr (.inr t))]) tX0_doNext_29 (by decide) rfl ?_
      refine pr_aload_n tX0_doNext_31 3 rfl ?_
      refine pr_geta (j := 5) tX0_doNext_32 rfl rfl rfl rfl ?_
      refine pr_iload_n tX0_doNext_35 1 rfl ?_
      refine pr_ial tX0_doNext_36 (c * 12 + p) rfl rfl (by omega) (by decide) ?_
      refine pR_topi (y := (nI r)) (by simp [pm_ui, pm_uj, upd, vp_updL, h5]) ?_
      refine pr_istore (L' := [(5, .inl (nI r)), (4, .inl (nI kd)), (3, .inl (nI (c * 12 + p))), (0, .inr (.inr a)), (1, .inr (.inr 2)), (2, .inr (.inr t))]) tX0_doNext_37 (by decide) rfl ?_
      refine pr_aload_n tX0_doNext_39 4 rfl ?_
      refine pr_geta (j := 6) tX0_doNext_40 rfl rfl rfl rfl ?_
      refine pr_iload_n tX0_doNext_43 2 rfl ?_
      refine pr_ial tX0_doNext_44 (c * 12 + p) rfl rfl (by omega) (by decide) ?_
      refine pR_topi (y := (nI s)) (by simp [pm_ui, pm_uj, upd, vp_updL, h6]) ?_
      refine pr_istore (L' := [(6, .inl (nI s)), (5, .inl (nI r)), (4, .inl (nI kd)), (3, .inl (nI (c * 12 + p))), (0, .inr (.inr a)), (1, .inr (.inr 2)), (2, .inr (.inr t))]) tX0_doNext_45 (by decide) rfl ?_
      refine pr_aload_n tX0_doNext_47 5 rfl ?_
      refine pr_geta (j := 7) tX0_doNext_48 rfl rfl rfl rfl ?_
      refine pr_iload_n tX0_doNext_51 3 rfl ?_
      refine pr_lal tX0_doNext_52 (c * 12 + p) rfl rfl (by omega) (by decide) ?_
      refine pr_lstore (L' := [(7, .inr (.inl (σ.2 7 (c * 12 + p)))), (6, .inl (nI s)), (5, .inl (nI r)), (4, .inl (nI kd)), (3, .inl (nI (c * 12 + p))), (0, .inr (.inr a)), (1, .inr (.inr 2)), (2, .inr (.inr t))]) tX0_doNext_53 (by decide) rfl ?_
      refine pr_iload tX0_doNext_55 3 rfl ?_
      refine pr_iconst (v := nI 1) tX0_doNext_57 rfl ?_
      refine pr_ic_ne (pc' := 90) tX0_doNext_58 rfl (fun hc58 => ?_) (fun hc58 => ?_)
      · skip
        have hc58 : ¬ kd = 1 := fun z9 => hc58 ((nI_eq (by omega) (by omega)).mpr z9)
        refine pr_aload_n tX0_doNext_90 5 rfl ?_
        refine pr_iload tX0_doNext_91 3 rfl ?_
        refine pr_iload tX0_doNext_93 2 rfl ?_
        refine pr_iload tX0_doNext_95 1 rfl ?_
        refine pr_lload tX0_doNext_97 0 rfl ?_
        refine pr_callV tX0_doNext_99 rfl ⟨Nat.le_of_ble_eq_true rfl, Nat.le_of_ble_eq_true rfl, rfl⟩ (hf) ?_
        refine pR_eq (st' := []) rfl rfl ?_
        refine pr_aload_n tX0_doNext_102 5 rfl ?_
        refine pr_dup tX0_doNext_103 rfl ?_
        refine pr_get0 tX0_doNext_104 rfl ha.1 rfl ?_
        refine pR_topi (y := (ρ.1 a 10)) (by simp [pm_ui, pm_uj, upd, vp_updL]) ?_
        refine pr_iconst (v := nI 1) tX0_doNext_107 rfl ?_
        refine pr_iadd (v := ((ρ.1 a 10) + (nI 1))) tX0_doNext_108 (rfl) ?_
        refine pr_put0 tX0_doNext_109 rfl ha.1 rfl ?_
        obtain ⟨σ1, eσ1⟩ : ∃ z : pST, z = (pm_ui ρ.1 a 10 ((ρ.1 a 10) + (nI 1)), ρ.2) := ⟨_, rfl⟩
        rw [← eσ1]
        refine pr_aload_n tX0_doNext_112 5 rfl ?_
        refine pr_dup tX0_doNext_113 rfl ?_
        refine pr_get0 tX0_doNext_114 rfl ha.1 rfl ?_
        refine pR_topi (y := (ρ.1 a 3)) (by simp [eσ1, pm_ui, pm_uj, upd, vp_updL]) ?_
        refine pr_iconst (v := nI 1) tX0_doNext_117 rfl ?_
        refine pr_iadd (v := ((ρ.1 a 3) + (nI 1))) tX0_doNext_118 (rfl) ?_
        refine pr_put0 tX0_doNext_119 rfl ha.1 rfl ?_
        obtain ⟨σ2, eσ2⟩ : ∃ z : pST, z = (pm_ui σ1.1 a 3 ((ρ.1 a 3) + (nI 1)), σ1.2) := ⟨_, rfl⟩
        rw [← eσ2]
        refine pr_aload_n tX0_doNext_122 5 rfl ?_
        refine pr_dup tX0_doNext_123 rfl ?_
        refine pr_get0 tX0_doNext_124 rfl ha.1 rfl ?_
        refine pR_topi (y := (ρ.1 a 2)) (by simp [eσ1, eσ2, pm_ui, pm_uj, upd, vp_updL]) ?_
        refine pr_iconst (v := nI 1) tX0_doNext_127 rfl ?_
        refine pr_iadd (v := ((ρ.1 a 2) + (nI 1))) tX0_doNext_128 (rfl) ?_
        refine pr_put0 tX0_doNext_129 rfl ha.1 rfl ?_
        obtain ⟨σ3, eσ3⟩ : ∃ z : pST, z = (pm_ui σ2.1 a 2 ((ρ.1 a 2) + (nI 1)), σ2.2) := ⟨_, rfl⟩
        rw [← eσ3]
        refine pr_iconst (v := -1) tX0_doNext_132 rfl ?_
        refine pr_iret tX0_doNext_133 rfl ?_
        unfold finX
        rw [eσ3, eσ2, eσ1]
        try rfl
      · skip
        exact absurd ((nI_eq (by omega) (by omega)).mp (Decidable.not_not.mp hc58)) hk1
    · skip
      exact absurd rfl hc5
  obtain ⟨x, h1, h2⟩ := key
  rw [h1, h2]

set_option maxRecDepth 100000 in
theorem ev_X0_doNext_r (σ : pST) {a : Nat} (ha : isA a) {t : Nat} {n c ac p : Nat} (hn : n ≤ 16) (hcn : σ.1 2 0 = nI n) (hc : c < 16) (hac : σ.1 3 c = nI ac) (hal : ac ≤ 12) (hp : p < 1000) (hs : σ.1 a 0 = nI c) (hx : σ.1 a 10 = nI p) (ho : σ.1 a 4 = 0 ∧ c < n ∧ p < ac) {kd r s : Nat} (hkd : kd ≤ 8) (h4 : σ.1 4 (c * 12 + p) = nI kd) (h5 : σ.1 5 (c * 12 + p) = nI r) (h6 : σ.1 6 (c * 12 + p) = nI s) (hk1 : kd = 1) (hs4 : s < 4) {k : Nat} (hk : k < 32) (hv : ((σ.2 7 (c * 12 + p) + σ.2 (a + 3) s) &&& 31).toInt32 = nI k) {ρ : pST} {w : Int32} (hf : kX0_read σ [.inr (.inr a), .inl (nI r), .inl (nI k), .inr (.inr t)] = some (ρ, some (.inl w))) (hw : w = -1) : kX0_doNext σ [.inr (.inr a), .inr (.inr 2), .inr (.inr t)] = some ((finX ρ a, some (.inl (-1)))) := by
  have key : ∃ x, kX0_doNext σ [.inr (.inr a), .inr (.inr 2), .inr (.inr t)] = some x ∧ x = (finX ρ a, some (.inl (-1))) := by
    refine pR_met (post := fun x => x = (finX ρ a, some (.inl (-1)))) ha.1 (Nat.le_of_ble_eq_true rfl) ?_
    show pR _ _ _ _ _ _ _ _ 0 [(0, .inr (.inr a)), (1, .inr (.inr 2)), (2, .inr (.inr t))] [] σ
    refine pr_aload_n tX0_doNext_0 0 rfl ?_
    refine pr_aload_n tX0_doNext_1 1 rfl ?_
    refine pr_callV tX0_doNext_2 rfl ⟨Nat.le_of_ble_eq_true rfl, Nat.le_of_ble_eq_true rfl, rfl⟩ ((ev_X0_isOver σ ha hn hcn hc hac hal hp hs hx).trans (by rw [if_pos ho])) ?_
    refine pR_eq (st' := [.inl 0]) rfl rfl ?_
    refine pr_if_eq (pc' := 10) tX0_doNext_5 rfl (fun hc5 => ?_) (fun hc5 => ?_)
    · skip
      skip
      refine pr_aload_n tX0_doNext_10 0 rfl ?_
      refine pr_get3 tX0_doNext_11 rfl ha.1 rfl ?_
      refine pR_topi (y := (nI c)) (by simp [pm_ui, pm_uj, upd, vp_updL, hs]) ?_
      refine pr_bipush (v := nI 12) tX0_doNext_14 rfl ?_
      refine pr_imul (v := (nI (c * 12))) tX0_doNext_16 (pk_mul _ _) ?_
      refine pr_aload_n tX0_doNext_17 0 rfl ?_
      refine pr_get0 tX0_doNext_18 rfl ha.1 rfl ?_
      refine pR_topi (y := (nI p)) (by simp [pm_ui, pm_uj, upd, vp_updL, hx]) ?_
      refine pr_iadd (v := (nI (c * 12 + p))) tX0_doNext_21 (nI_add _ _) ?_
      refine pr_istore_n (L' := [(3, .inl (nI (c * 12 + p))), (0, .inr (.inr a)), (1, .inr (.inr 2)), (2, .inr (.inr t))]) tX0_doNext_22 (by decide) rfl ?_
      refine pr_aload_n tX0_doNext_23 2 rfl ?_
      refine pr_geta (j := 4) tX0_doNext_24 rfl rfl rfl rfl ?_
      refine pr_iload_n tX0_doNext_27 0 rfl ?_
      refine pr_ial tX0_doNext_28 (c * 12 + p) rfl rfl (by omega) (by decide) ?_
      refine pR_topi (y := (nI kd)) (by simp [pm_ui, pm_uj, upd, vp_updL, h4]) ?_
      refine pr_istore (L' := [(4, .inl (nI kd)), (3, .inl (nI (c * 12 + p))), (0, .inr (.inr a)), (1, .inr (.inr 2)), (2, .inr (.inr t))]) tX0_doNext_29 (by decide) rfl ?_
      refine pr_aload_n tX0_doNext_31 3 rfl ?_
      refine pr_geta (j := 5) tX0_doNext_32 rfl rfl rfl rfl ?_
      refine pr_iload_n tX0_doNext_35 1 rfl ?_
      refine pr_ial tX0_doNext_36 (c * 12 + p) rfl rfl (by omega) (by decide) ?_
      refine pR_topi (y := (nI r)) (by simp [pm_ui, pm_uj, upd, vp_updL, h5]) ?_
      refine pr_istore (L' := [(5, .inl (nI r)), (4, .inl (nI kd)), (3, .inl (nI (c * 12 + p))), (0, .inr (.inr a)), (1, .inr (.inr 2)), (2, .inr (.inr t))]) tX0_doNext_37 (by decide) rfl ?_
      refine pr_aload_n tX0_doNext_39 4 rfl ?_
      refine pr_geta (j := 6) tX0_doNext_40 rfl rfl rfl rfl ?_
      refine pr_iload_n tX0_doNext_43 2 rfl ?_
      refine pr_ial tX0_doNext_44 (c * 12 + p) rfl rfl (by omega) (by decide) ?_
      refine pR_topi (y := (nI s)) (by simp [pm_ui, pm_uj, upd, vp_updL, h6]) ?_
      refine pr_istore (L' := [(6, .inl (nI s)), (5, .inl (nI r)), (4, .inl (nI kd)), (3, .inl (nI (c * 12 + p))), (0, .inr (.inr a)), (1, .inr (.inr 2)), (2, .inr (.inr t))]) tX0_doNext_45 (by decide) rfl ?_
      refine pr_aload_n tX0_doNext_47 5 rfl ?_
      refine pr_geta (j := 7) tX0_doNext_48 rfl rfl rfl rfl ?_
      refine pr_iload_n tX0_doNext_51 3 rfl ?_
      refine pr_lal tX0_doNext_52 (c * 12 + p) rfl rfl (by omega) (by decide) ?_
      refine pr_lstore (L' := [(7, .inr (.inl (σ.2 7 (c * 12 + p)))), (6, .inl (nI s)), (5, .inl (nI r)), (4, .inl (nI kd)), (3, .inl (nI (c * 12 + p))), (0, .inr (.inr a)), (1, .inr (.inr 2)), (2, .inr (.inr t))]) tX0_doNext_53 (by decide) rfl ?_
      refine pr_iload tX0_doNext_55 3 rfl ?_
      refine pr_iconst (v := nI 1) tX0_doNext_57 rfl ?_
      refine pr_ic_ne (pc' := 90) tX0_doNext_58 rfl (fun hc58 => ?_) (fun hc58 => ?_)
      · skip
        exact absurd (by rw [hk1]) hc58
      · skip
        have hc58 : kd = 1 := (nI_eq (by omega) (by omega)).mp (Decidable.not_not.mp hc58)
        refine pr_aload_n tX0_doNext_61 5 rfl ?_
        refine pr_iload tX0_doNext_62 2 rfl ?_
        refine pr_aload_n tX0_doNext_64 5 rfl ?_
        refine pr_iload tX0_doNext_65 1 rfl ?_
        refine pr_lload tX0_doNext_67 0 rfl ?_
        refine pr_callV tX0_doNext_69 rfl ⟨Nat.le_of_ble_eq_true rfl, Nat.le_of_ble_eq_true rfl, rfl⟩ ((ev_X0_leafAt σ ha hs4 _).trans (by rw [hv])) ?_
        refine pR_eq (st' := [.inl (nI k), .inl (nI r), .inr (.inr a)]) rfl rfl ?_
        refine pr_aload_n tX0_doNext_72 7 rfl ?_
        refine pr_callV tX0_doNext_73 rfl ⟨Nat.le_of_ble_eq_true rfl, Nat.le_of_ble_eq_true rfl, rfl⟩ (hf) ?_
        refine pR_eq (st' := [.inl w]) rfl rfl ?_
        refine pr_istore (L' := [(9, .inl w), (7, .inr (.inl (σ.2 7 (c * 12 + p)))), (6, .inl (nI s)), (5, .inl (nI r)), (4, .inl (nI kd)), (3, .inl (nI (c * 12 + p))), (0, .inr (.inr a)), (1, .inr (.inr 2)), (2, .inr (.inr t))]) tX0_doNext_76 (by decide) rfl ?_
        refine pr_iload tX0_doNext_78 0 rfl ?_
        refine pr_iconst (v := -1) tX0_doNext_80 rfl ?_
        refine pr_ic_eq (pc' := 87) tX0_doNext_81 rfl (fun hc81 => ?_) (fun hc81 => ?_)
        · skip
          refine pr_goto (pc' := 102) tX0_doNext_87 rfl ?_
          refine pr_aload_n tX0_doNext_102 6 rfl ?_
          refine pr_dup tX0_doNext_103 rfl ?_
          refine pr_get0 tX0_doNext_104 rfl ha.1 rfl ?_
          refine pR_topi (y := (ρ.1 a 10)) (by simp [pm_ui, pm_uj, upd, vp_updL]) ?_
          refine pr_iconst (v := nI 1) tX0_doNext_107 rfl ?_
          refine pr_iadd (v := ((ρ.1 a 10) + (nI 1))) tX0_doNext_108 (rfl) ?_
          refine pr_put0 tX0_doNext_109 rfl ha.1 rfl ?_
          obtain ⟨σ1, eσ1⟩ : ∃ z : pST, z = (pm_ui ρ.1 a 10 ((ρ.1 a 10) + (nI 1)), ρ.2) := ⟨_, rfl⟩
          rw [← eσ1]
          refine pr_aload_n tX0_doNext_112 6 rfl ?_
          refine pr_dup tX0_doNext_113 rfl ?_
          refine pr_get0 tX0_doNext_114 rfl ha.1 rfl ?_
          refine pR_topi (y := (ρ.1 a 3)) (by simp [eσ1, pm_ui, pm_uj, upd, vp_updL]) ?_
          refine pr_iconst (v := nI 1) tX0_doNext_117 rfl ?_
          refine pr_iadd (v := ((ρ.1 a 3) + (nI 1))) tX0_doNext_118 (rfl) ?_
          refine pr_put0 tX0_doNext_119 rfl ha.1 rfl ?_
          obtain ⟨σ2, eσ2⟩ : ∃ z : pST, z = (pm_ui σ1.1 a 3 ((ρ.1 a 3) + (nI 1)), σ1.2) := ⟨_, rfl⟩
          rw [← eσ2]
          refine pr_aload_n tX0_doNext_122 6 rfl ?_
          refine pr_dup tX0_doNext_123 rfl ?_
          refine pr_get0 tX0_doNext_124 rfl ha.1 rfl ?_
          refine pR_topi (y := (ρ.1 a 2)) (by simp [eσ1, eσ2, pm_ui, pm_uj, upd, vp_updL]) ?_
          refine pr_iconst (v := nI 1) tX0_doNext_127 rfl ?_
          refine pr_iadd (v := ((ρ.1 a 2) + (nI 1))) tX0_doNext_128 (rfl) ?_
          refine pr_put0 tX0_doNext_129 rfl ha.1 rfl ?_
          obtain ⟨σ3, eσ3⟩ : ∃ z : pST, z = (pm_ui σ2.1 a 2 ((ρ.1 a 2) + (nI 1)), σ2.2) := ⟨_, rfl⟩
          rw [← eσ3]
          refine pr_iconst (v := -1) tX0_doNext_132 rfl ?_
          refine pr_iret tX0_doNext_133 rfl ?_
          unfold finX
          rw [eσ3, eσ2, eσ1]
          try rfl
        · skip
          exact absurd hw hc81
    · skip
      exact absurd rfl hc5
  obtain ⟨x, h1, h2⟩ := key
  rw [h1, h2]

set_option maxRecDepth 100000 in
theorem ev_X0_doNext_w (σ : pST) {a : Nat} (ha : isA a) {t : Nat} {n c ac p : Nat} (hn : n ≤ 16) (hcn : σ.1 2 0 = nI n) (hc : c < 16) (hac : σ.1 3 c = nI ac) (hal : ac ≤ 12) (hp : p < 1000) (hs : σ.1 a 0 = nI c) (hx : σ.1 a 10 = nI p) (ho : σ.1 a 4 = 0 ∧ c < n ∧ p < ac) {kd r s : Nat} (hkd : kd ≤ 8) (h4 : σ.1 4 (c * 12 + p) = nI kd) (h5 : σ.1 5 (c * 12 + p) = nI r) (h6 : σ.1 6 (c * 12 + p) = nI s) (hk1 : kd = 1) (hs4 : s < 4) {k : Nat} (hk : k < 32) (hv : ((σ.2 7 (c * 12 + p) + σ.2 (a + 3) s) &&& 31).toInt32 = nI k) {ρ : pST} {w : Int32} (hf : kX0_read σ [.inr (.inr a), .inl (nI r), .inl (nI k), .inr (.inr t)] = some (ρ, some (.inl w))) (hw : ¬ w = -1) : kX0_doNext σ [.inr (.inr a), .inr (.inr 2), .inr (.inr t)] = some ((ρ, some (.inl w))) := by
  have key : ∃ x, kX0_doNext σ [.inr (.inr a), .inr (.inr 2), .inr (.inr t)] = some x ∧ x = (ρ, some (.inl w)) := by
    refine pR_met (post := fun x => x = (ρ, some (.inl w))) ha.1 (Nat.le_of_ble_eq_true rfl) ?_
    show pR _ _ _ _ _ _ _ _ 0 [(0, .inr (.inr a)), (1, .inr (.inr 2)), (2, .inr (.inr t))] [] σ
    refine pr_aload_n tX0_doNext_0 0 rfl ?_
    refine pr_aload_n tX0_doNext_1 1 rfl ?_
    refine pr_callV tX0_doNext_2 rfl ⟨Nat.le_of_ble_eq_true rfl, Nat.le_of_ble_eq_true rfl, rfl⟩ ((ev_X0_isOver σ ha hn hcn hc hac hal hp hs hx).trans (by rw [if_pos ho])) ?_
    refine pR_eq (st' := [.inl 0]) rfl rfl ?_
    refine pr_if_eq (pc' := 10) tX0_doNext_5 rfl (fun hc5 => ?_) (fun hc5 => ?_)
    · skip
      skip
      refine pr_aload_n tX0_doNext_10 0 rfl ?_
      refine pr_get3 tX0_doNext_11 rfl ha.1 rfl ?_
      refine pR_topi (y := (nI c)) (by simp [pm_ui, pm_uj, upd, vp_updL, hs]) ?_
      refine pr_bipush (v := nI 12) tX0_doNext_14 rfl ?_
      refine pr_imul (v := (nI (c * 12))) tX0_doNext_16 (pk_mul _ _) ?_
      refine pr_aload_n tX0_doNext_17 0 rfl ?_
      refine pr_get0 tX0_doNext_18 rfl ha.1 rfl ?_
      refine pR_topi (y := (nI p)) (by simp [pm_ui, pm_uj, upd, vp_updL, hx]) ?_
      refine pr_iadd (v := (nI (c * 12 + p))) tX0_doNext_21 (nI_add _ _) ?_
      refine pr_istore_n (L' := [(3, .inl (nI (c * 12 + p))), (0, .inr (.inr a)), (1, .inr (.inr 2)), (2, .inr (.inr t))]) tX0_doNext_22 (by decide) rfl ?_
      refine pr_aload_n tX0_doNext_23 2 rfl ?_
      refine pr_geta (j := 4) tX0_doNext_24 rfl rfl rfl rfl ?_
      refine pr_iload_n tX0_doNext_27 0 rfl ?_
      refine pr_ial tX0_doNext_28 (c * 12 + p) rfl rfl (by omega) (by decide) ?_
      refine pR_topi (y := (nI kd)) (by simp [pm_ui, pm_uj, upd, vp_updL, h4]) ?_
      refine pr_istore (L' := [(4, .inl (nI kd)), (3, .inl (nI (c * 12 + p))), (0, .inr (.inr a)), (1, .inr (.inr 2)), (2, .inr (.inr t))]) tX0_doNext_29 (by decide) rfl ?_
      refine pr_aload_n tX0_doNext_31 3 rfl ?_
      refine pr_geta (j := 5) tX0_doNext_32 rfl rfl rfl rfl ?_
      refine pr_iload_n tX0_doNext_35 1 rfl ?_
      refine pr_ial tX0_doNext_36 (c * 12 + p) rfl rfl (by omega) (by decide) ?_
      refine pR_topi (y := (nI r)) (by simp [pm_ui, pm_uj, upd, vp_updL, h5]) ?_
      refine pr_istore (L' := [(5, .inl (nI r)), (4, .inl (nI kd)), (3, .inl (nI (c * 12 + p))), (0, .inr (.inr a)), (1, .inr (.inr 2)), (2, .inr (.inr t))]) tX0_doNext_37 (by decide) rfl ?_
      refine pr_aload_n tX0_doNext_39 4 rfl ?_
      refine pr_geta (j := 6) tX0_doNext_40 rfl rfl rfl rfl ?_
      refine pr_iload_n tX0_doNext_43 2 rfl ?_
      refine pr_ial tX0_doNext_44 (c * 12 + p) rfl rfl (by omega) (by decide) ?_
      refine pR_topi (y := (nI s)) (by simp [pm_ui, pm_uj, upd, vp_updL, h6]) ?_
      refine pr_istore (L' := [(6, .inl (nI s)), (5, .inl (nI r)), (4, .inl (nI kd)), (3, .inl (nI (c * 12 + p))), (0, .inr (.inr a)), (1, .inr (.inr 2)), (2, .inr (.inr t))]) tX0_doNext_45 (by decide) rfl ?_
      refine pr_aload_n tX0_doNext_47 5 rfl ?_
      refine pr_geta (j := 7) tX0_doNext_48 rfl rfl rfl rfl ?_
      refine pr_iload_n tX0_doNext_51 3 rfl ?_
      refine pr_lal tX0_doNext_52 (c * 12 + p) rfl rfl (by omega) (by decide) ?_
      refine pr_lstore (L' := [(7, .inr (.inl (σ.2 7 (c * 12 + p)))), (6, .inl (nI s)), (5, .inl (nI r)), (4, .inl (nI kd)), (3, .inl (nI (c * 12 + p))), (0, .inr (.inr a)), (1, .inr (.inr 2)), (2, .inr (.inr t))]) tX0_doNext_53 (by decide) rfl ?_
      refine pr_iload tX0_doNext_55 3 rfl ?_
      refine pr_iconst (v := nI 1) tX0_doNext_57 rfl ?_
      refine pr_ic_ne (pc' := 90) tX0_doNext_58 rfl (fun hc58 => ?_) (fun hc58 => ?_)
      · skip
        exact absurd (by rw [hk1]) hc58
      · skip
        have hc58 : kd = 1 := (nI_eq (by omega) (by omega)).mp (Decidable.not_not.mp hc58)
        refine pr_aload_n tX0_doNext_61 5 rfl ?_
        refine pr_iload tX0_doNext_62 2 rfl ?_
        refine pr_aload_n tX0_doNext_64 5 rfl ?_
        refine pr_iload tX0_doNext_65 1 rfl ?_
        refine pr_lload tX0_doNext_67 0 rfl ?_
        refine pr_callV tX0_doNext_69 rfl ⟨Nat.le_of_ble_eq_true rfl, Nat.le_of_ble_eq_true rfl, rfl⟩ ((ev_X0_leafAt σ ha hs4 _).trans (by rw [hv])) ?_
        refine pR_eq (st' := [.inl (nI k), .inl (nI r), .inr (.inr a)]) rfl rfl ?_
        refine pr_aload_n tX0_doNext_72 7 rfl ?_
        refine pr_callV tX0_doNext_73 rfl ⟨Nat.le_of_ble_eq_true rfl, Nat.le_of_ble_eq_true rfl, rfl⟩ (hf) ?_
        refine pR_eq (st' := [.inl w]) rfl rfl ?_
        refine pr_istore (L' := [(9, .inl w), (7, .inr (.inl (σ.2 7 (c * 12 + p)))), (6, .inl (nI s)), (5, .inl (nI r)), (4, .inl (nI kd)), (3, .inl (nI (c * 12 + p))), (0, .inr (.inr a)), (1, .inr (.inr 2)), (2, .inr (.inr t))]) tX0_doNext_76 (by decide) rfl ?_
        refine pr_iload tX0_doNext_78 0 rfl ?_
        refine pr_iconst (v := -1) tX0_doNext_80 rfl ?_
        refine pr_ic_eq (pc' := 87) tX0_doNext_81 rfl (fun hc81 => ?_) (fun hc81 => ?_)
        · skip
          exact absurd hc81 hw
        · skip
          refine pr_iload tX0_doNext_84 0 rfl ?_
          refine pr_iret tX0_doNext_86 rfl ?_
          rfl
    · skip
      exact absurd rfl hc5
  obtain ⟨x, h1, h2⟩ := key
  rw [h1, h2]

set_option maxRecDepth 100000 in
theorem ev_X3_note (σ : pST) {m : Nat} (hm : σ.1 144 0 = nI m) (hl : m < 2 ^ 30) (u w : Int32) : kX3_note σ [.inr (.inr 144), .inl u, .inl w] = some (((pm_ui (if m < 200 then pm_ui (pm_ui (σ.1) 145 m u) 146 m w else σ.1) 144 0 (nI (m + 1)), σ.2), none)) := by
  have key : ∃ x, kX3_note σ [.inr (.inr 144), .inl u, .inl w] = some x ∧ x = ((pm_ui (if m < 200 then pm_ui (pm_ui (σ.1) 145 m u) 146 m w else σ.1) 144 0 (nI (m + 1)), σ.2), none) := by
    refine pR_met (post := fun x => x = ((pm_ui (if m < 200 then pm_ui (pm_ui (σ.1) 145 m u) 146 m w else σ.1) 144 0 (nI (m + 1)), σ.2), none)) rfl (Nat.le_of_ble_eq_true rfl) ?_
    show pR _ _ _ _ _ _ _ _ 0 [(0, .inr (.inr 144)), (1, .inl u), (2, .inl w)] [] σ
    refine pr_aload_n tX3_note_0 0 rfl ?_
    refine pr_get0 tX3_note_1 rfl rfl rfl ?_
    refine pR_topi (y := (nI m)) (by simp [pm_ui, pm_uj, upd, vp_updL, hm]) ?_
    refine pr_sipush (v := nI 200) tX3_note_4 rfl ?_
    refine pr_ic_ge (pc' := 30) tX3_note_7 rfl (fun hc7 => ?_) (fun hc7 => ?_)
    · skip
      have hc7 : 200 ≤ m := (nI_leI (by omega) (by omega)).mp hc7
      refine pr_aload_n tX3_note_30 0 rfl ?_
      refine pr_dup tX3_note_31 rfl ?_
      refine pr_get0 tX3_note_32 rfl rfl rfl ?_
      refine pR_topi (y := (nI m)) (by simp [pm_ui, pm_uj, upd, vp_updL, hm]) ?_
      refine pr_iconst (v := nI 1) tX3_note_35 rfl ?_
      refine pr_iadd (v := (nI (m + 1))) tX3_note_36 (nI_add _ _) ?_
      refine pr_put0 tX3_note_37 rfl rfl rfl ?_
      obtain ⟨σ1, eσ1⟩ : ∃ z : pST, z = (pm_ui σ.1 144 0 (nI (m + 1)), σ.2) := ⟨_, rfl⟩
      rw [← eσ1]
      refine pr_ret tX3_note_40 rfl ?_
      rw [if_neg (by omega), eσ1]
    · skip
      have hc7 : ¬ 200 ≤ m := fun z9 => hc7 ((nI_leI (by omega) (by omega)).mpr z9)
      refine pr_aload_n tX3_note_10 0 rfl ?_
      refine pr_geta (j := 145) tX3_note_11 rfl rfl rfl rfl ?_
      refine pr_aload_n tX3_note_14 0 rfl ?_
      refine pr_get0 tX3_note_15 rfl rfl rfl ?_
      refine pR_topi (y := (nI m)) (by simp [pm_ui, pm_uj, upd, vp_updL, hm]) ?_
      refine pr_iload_n tX3_note_18 1 rfl ?_
      refine pr_ias tX3_note_19 m rfl rfl (by omega) (by decide) ?_
      obtain ⟨σ2, eσ2⟩ : ∃ z : pST, z = (pm_ui σ.1 145 m u, σ.2) := ⟨_, rfl⟩
      rw [← eσ2]
      refine pr_aload_n tX3_note_20 0 rfl ?_
      refine pr_geta (j := 146) tX3_note_21 rfl rfl rfl rfl ?_
      refine pr_aload_n tX3_note_24 0 rfl ?_
      refine pr_get0 tX3_note_25 rfl rfl rfl ?_
      refine pR_topi (y := (nI m)) (by simp [eσ2, pm_ui, pm_uj, upd, vp_updL, hm]) ?_
      refine pr_iload_n tX3_note_28 2 rfl ?_
      refine pr_ias tX3_note_29 m rfl rfl (by omega) (by decide) ?_
      obtain ⟨σ3, eσ3⟩ : ∃ z : pST, z = (pm_ui σ2.1 146 m w, σ2.2) := ⟨_, rfl⟩
      rw [← eσ3]
      refine pr_aload_n tX3_note_30 0 rfl ?_
      refine pr_dup tX3_note_31 rfl ?_
      refine pr_get0 tX3_note_32 rfl rfl rfl ?_
      refine pR_topi (y := (nI m)) (by simp [eσ2, eσ3, pm_ui, pm_uj, upd, vp_updL, hm]) ?_
      refine pr_iconst (v := nI 1) tX3_note_35 rfl ?_
      refine pr_iadd (v := (nI (m + 1))) tX3_note_36 (nI_add _ _) ?_
      refine pr_put0 tX3_note_37 rfl rfl rfl ?_
      obtain ⟨σ4, eσ4⟩ : ∃ z : pST, z = (pm_ui σ3.1 144 0 (nI (m + 1)), σ3.2) := ⟨_, rfl⟩
      rw [← eσ4]
      refine pr_ret tX3_note_40 rfl ?_
      rw [if_pos (by omega), eσ4, eσ3, eσ2]
  obtain ⟨x, h1, h2⟩ := key
  rw [h1, h2]

set_option maxRecDepth 100000 in
theorem ev_X5_valueAfter_n (σ : pST) {t k : Nat} (ht : isT t) (hk : k < 32) (hw : wbN (σ.1 (t + 2)) k 16 = -1) : kX5_valueAfter σ [.inr (.inr t), .inl (nI k)] = some ((σ, some (.inr (.inl (σ.2 (t + 1) k))))) := by
  have key : ∃ x, kX5_valueAfter σ [.inr (.inr t), .inl (nI k)] = some x ∧ x = (σ, some (.inr (.inl (σ.2 (t + 1) k)))) := by
    refine pR_met (post := fun x => x = (σ, some (.inr (.inl (σ.2 (t + 1) k))))) ht.1 (Nat.le_of_ble_eq_true rfl) ?_
    show pR _ _ _ _ _ _ _ _ 0 [(0, .inr (.inr t)), (1, .inl (nI k))] [] σ
    refine pr_aload_n tX5_valueAfter_0 0 rfl ?_
    refine pr_iload_n tX5_valueAfter_1 1 rfl ?_
    refine pr_aload_n tX5_valueAfter_2 0 rfl ?_
    refine pr_iload_n tX5_valueAfter_3 1 rfl ?_
    refine pr_bipush (v := nI 16) tX5_valueAfter_4 rfl ?_
    refine pr_callV tX5_valueAfter_6 rfl ⟨Nat.le_of_ble_eq_true rfl, Nat.le_of_ble_eq_true rfl, rfl⟩ ((ev_X5_writerBelow σ ht hk (Nat.le_refl 16)).trans (by rw [hw])) ?_
    refine pR_eq (st' := [.inl (-1), .inl (nI k), .inr (.inr t)]) rfl rfl ?_
    refine pr_callV tX5_valueAfter_9 rfl ⟨Nat.le_of_ble_eq_true rfl, Nat.le_of_ble_eq_true rfl, rfl⟩ (ev_X5_valueOf_n σ ht hk) ?_
    refine pR_eq (st' := [.inr (.inl (σ.2 (t + 1) k))]) rfl rfl ?_
    refine pr_lret tX5_valueAfter_12 rfl ?_
    rfl
  obtain ⟨x, h1, h2⟩ := key
  rw [h1, h2]

set_option maxRecDepth 100000 in
theorem ev_X5_valueAfter_s (σ : pST) {t k : Nat} (ht : isT t) (hk : k < 32) {j : Nat} (hj : j < 16) (hw : wbN (σ.1 (t + 2)) k 16 = nI j) : kX5_valueAfter σ [.inr (.inr t), .inl (nI k)] = some ((σ, some (.inr (.inl (σ.2 (t + 4) (k * 16 + j)))))) := by
  have key : ∃ x, kX5_valueAfter σ [.inr (.inr t), .inl (nI k)] = some x ∧ x = (σ, some (.inr (.inl (σ.2 (t + 4) (k * 16 + j))))) := by
    refine pR_met (post := fun x => x = (σ, some (.inr (.inl (σ.2 (t + 4) (k * 16 + j)))))) ht.1 (Nat.le_of_ble_eq_true rfl) ?_
    show pR _ _ _ _ _ _ _ _ 0 [(0, .inr (.inr t)), (1, .inl (nI k))] [] σ
    refine pr_aload_n tX5_valueAfter_0 0 rfl ?_
    refine pr_iload_n tX5_valueAfter_1 1 rfl ?_
    refine pr_aload_n tX5_valueAfter_2 0 rfl ?_
    refine pr_iload_n tX5_valueAfter_3 1 rfl ?_
    refine pr_bipush (v := nI 16) tX5_valueAfter_4 rfl ?_
    refine pr_callV tX5_valueAfter_6 rfl ⟨Nat.le_of_ble_eq_true rfl, Nat.le_of_ble_eq_true rfl, rfl⟩ ((ev_X5_writerBelow σ ht hk (Nat.le_refl 16)).trans (by rw [hw])) ?_
    refine pR_eq (st' := [.inl (nI j), .inl (nI k), .inr (.inr t)]) rfl rfl ?_
    refine pr_callV tX5_valueAfter_9 rfl ⟨Nat.le_of_ble_eq_true rfl, Nat.le_of_ble_eq_true rfl, rfl⟩ (ev_X5_valueOf_s σ ht hk hj) ?_
    refine pR_eq (st' := [.inr (.inl (σ.2 (t + 4) (k * 16 + j)))]) rfl rfl ?_
    refine pr_lret tX5_valueAfter_12 rfl ?_
    rfl
  obtain ⟨x, h1, h2⟩ := key
  rw [h1, h2]

/-- the entries of call c become PERHAPS, of the first m leaves -/
def dbtS (σ : pST) (t c : Nat) : Nat → pST
  | 0 => σ
  | k + 1 => if σ.1 (t + 2) (k * 16 + c) = 0 then dbtS σ t c k else (pm_ui (dbtS σ t c k).1 (t + 2) (k * 16 + c) (nI 2), (dbtS σ t c k).2)
theorem dbtS_o {σ : pST} {t c : Nat} (hc : c < 16) : ∀ (m y : Nat), m * 16 ≤ y → (dbtS σ t c m).1 (t + 2) y = σ.1 (t + 2) y
  | 0, y, _ => rfl
  | k + 1, y, h => by
    unfold dbtS
    split
    · exact dbtS_o hc k y (by omega)
    · have e : (pm_ui (dbtS σ t c k).1 (t + 2) (k * 16 + c) (nI 2) : Nat → Nat → Int32) (t + 2) y = (dbtS σ t c k).1 (t + 2) y := pm_ui_o (by omega)
      exact e.trans (dbtS_o hc k y (by omega))

set_option maxRecDepth 100000 in
theorem lp_X5_doubt (σ : pST) {t c : Nat} (ht : isT t) (hc : c < 16) : ∀ (m i : Nat), i + m = 32 → pR shX tX5_doubt fX5_doubt qX5_doubt lX5_doubt 3 0 (fun x => x = (dbtS σ t c 32, none)) 2 [(2, .inl (nI i)), (1, .inl (nI c)), (0, .inr (.inr t))] [] (dbtS σ t c i) := by
  intro m
  induction m with
  | zero =>
    intro i hi
    refine pr_iload_n tX5_doubt_2 0 rfl ?_
    refine pr_bipush (v := nI 32) tX5_doubt_3 rfl ?_
    refine pr_ic_ge (pc' := 40) tX5_doubt_5 rfl (fun hc5 => ?_) (fun hc5 => ?_)
    · skip
      have hc5 : 32 ≤ i := (nI_leI (by omega) (by omega)).mp hc5
      refine pr_ret tX5_doubt_40 rfl ?_
      rw [show i = 32 by omega]
    · skip
      exact absurd ((nI_leI (by omega) (by omega)).mpr (by omega)) hc5
  | succ m ih =>
    intro i hi
    refine pr_iload_n tX5_doubt_2 0 rfl ?_
    refine pr_bipush (v := nI 32) tX5_doubt_3 rfl ?_
    refine pr_ic_ge (pc' := 40) tX5_doubt_5 rfl (fun hc5 => ?_) (fun hc5 => ?_)
    · skip
      exact absurd ((nI_leI (by omega) (by omega)).mp hc5) (by omega)
    · skip
      have hc5 : ¬ 32 ≤ i := fun z9 => hc5 ((nI_leI (by omega) (by omega)).mpr z9)
      refine pr_aload_n tX5_doubt_8 2 rfl ?_
      refine pr_geta (j := t + 2) tX5_doubt_9 rfl ht.1 rfl rfl ?_
      refine pr_iload_n tX5_doubt_12 0 rfl ?_
      refine pr_bipush (v := nI 16) tX5_doubt_13 rfl ?_
      refine pr_imul (v := (nI (i * 16))) tX5_doubt_15 (pk_mul _ _) ?_
      refine pr_iload_n tX5_doubt_16 1 rfl ?_
      refine pr_iadd (v := (nI (i * 16 + c))) tX5_doubt_17 (nI_add _ _) ?_
      refine pr_ial tX5_doubt_18 (i * 16 + c) ht.2.2.1 rfl (by omega) (by decide) ?_
      refine pR_topi (y := (σ.1 (t + 2) (i * 16 + c))) (dbtS_o hc i _ (by omega)) ?_
      refine pr_if_eq (pc' := 34) tX5_doubt_19 rfl (fun hc19 => ?_) (fun hc19 => ?_)
      · skip
        have hz := hc19
        refine pr_iinc (v := (nI (i + 1))) (L' := [(2, .inl (nI (i + 1))), (1, .inl (nI c)), (0, .inr (.inr t))]) tX5_doubt_34 0 rfl (nI_1 _) (by decide) rfl ?_
        refine pr_goto (pc' := 2) tX5_doubt_37 rfl ?_
        refine pR_sub (L' := [(2, .inl (nI (i + 1))), (1, .inl (nI c)), (0, .inr (.inr t))]) [0, 1, 2] rfl ?_
        rw [show dbtS σ t c i = dbtS σ t c (i + 1) from (if_pos hz).symm]
        exact ih (i + 1) (by omega)
      · skip
        have hz := hc19
        refine pr_aload_n tX5_doubt_22 2 rfl ?_
        refine pr_geta (j := t + 2) tX5_doubt_23 rfl ht.1 rfl rfl ?_
        refine pr_iload_n tX5_doubt_26 0 rfl ?_
        refine pr_bipush (v := nI 16) tX5_doubt_27 rfl ?_
        refine pr_imul (v := (nI (i * 16))) tX5_doubt_29 (pk_mul _ _) ?_
        refine pr_iload_n tX5_doubt_30 1 rfl ?_
        refine pr_iadd (v := (nI (i * 16 + c))) tX5_doubt_31 (nI_add _ _) ?_
        refine pr_iconst (v := nI 2) tX5_doubt_32 rfl ?_
        refine pr_ias tX5_doubt_33 (i * 16 + c) ht.2.2.1 rfl (by omega) (by decide) ?_
        obtain ⟨σ1, eσ1⟩ : ∃ z : pST, z = (pm_ui (dbtS σ t c i).1 (t + 2) (i * 16 + c) (nI 2), (dbtS σ t c i).2) := ⟨_, rfl⟩
        rw [← eσ1]
        refine pr_iinc (v := (nI (i + 1))) (L' := [(2, .inl (nI (i + 1))), (1, .inl (nI c)), (0, .inr (.inr t))]) tX5_doubt_34 0 rfl (nI_1 _) (by decide) rfl ?_
        refine pr_goto (pc' := 2) tX5_doubt_37 rfl ?_
        refine pR_sub (L' := [(2, .inl (nI (i + 1))), (1, .inl (nI c)), (0, .inr (.inr t))]) [0, 1, 2] rfl ?_
        rw [eσ1, show ((pm_ui (dbtS σ t c i).1 (t + 2) (i * 16 + c) (nI 2), (dbtS σ t c i).2) : pST) = dbtS σ t c (i + 1) from (if_neg hz).symm]
        exact ih (i + 1) (by omega)

set_option maxRecDepth 100000 in
theorem ev_X5_doubt (σ : pST) {t c : Nat} (ht : isT t) (hc : c < 16) : kX5_doubt σ [.inr (.inr t), .inl (nI c)] = some ((dbtS σ t c 32, none)) := by
  have key : ∃ x, kX5_doubt σ [.inr (.inr t), .inl (nI c)] = some x ∧ x = (dbtS σ t c 32, none) := by
    refine pR_met (post := fun x => x = (dbtS σ t c 32, none)) ht.1 (Nat.le_of_ble_eq_true rfl) ?_
    show pR _ _ _ _ _ _ _ _ 0 [(0, .inr (.inr t)), (1, .inl (nI c))] [] σ
    refine pr_iconst (v := nI 0) tX5_doubt_0 rfl ?_
    refine pr_istore_n (L' := [(2, .inl (nI 0)), (0, .inr (.inr t)), (1, .inl (nI c))]) tX5_doubt_1 (by decide) rfl ?_
    refine pR_sub (L' := [(2, .inl (nI 0)), (1, .inl (nI c)), (0, .inr (.inr t))]) [0, 2, 1] rfl ?_
    exact lp_X5_doubt σ ht hc 32 0 (by omega)
  obtain ⟨x, h1, h2⟩ := key
  rw [h1, h2]
