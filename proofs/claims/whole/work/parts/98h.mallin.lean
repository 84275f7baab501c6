/-! ===== the reference's allInOrder ===== -/
set_option maxRecDepth 100000 in
theorem cl_X8_allInOrder {σ : pST} {post : pRT → Prop} (K : pR shM tX8_allInOrder fX8_allInOrder qX8_allInOrder lX8_allInOrder 4 0 post 29 [(0, .inr (.inr 0))] [] (clM σ.1 512, σ.2)) : ∀ (m i : Nat), i + m = 512 → pR shM tX8_allInOrder fX8_allInOrder qX8_allInOrder lX8_allInOrder 4 0 post 2 [(1, .inl (nI i)), (0, .inr (.inr 0))] [] (clM σ.1 i, σ.2) := by
  intro m
  induction m with
  | zero =>
    intro i hi
    refine pr_iload_n tX8_allInOrder_2 0 rfl ?_
    refine pr_sipush (v := nI 512) tX8_allInOrder_3 rfl ?_
    refine pr_ic_ge (pc' := 29) tX8_allInOrder_6 rfl (fun hc6 => ?_) (fun hc6 => ?_)
    · skip
      have hc6 : 512 ≤ i := (nI_leI (by omega) (by omega)).mp hc6
      refine pR_sub (L' := [(0, .inr (.inr 0))]) [1] rfl ?_
      rw [show i = 512 by omega]
      exact K
    · skip
      exact absurd ((nI_leI (by omega) (by omega)).mpr (by omega)) hc6
  | succ m ih =>
    intro i hi
    refine pr_iload_n tX8_allInOrder_2 0 rfl ?_
    refine pr_sipush (v := nI 512) tX8_allInOrder_3 rfl ?_
    refine pr_ic_ge (pc' := 29) tX8_allInOrder_6 rfl (fun hc6 => ?_) (fun hc6 => ?_)
    · skip
      exact absurd ((nI_leI (by omega) (by omega)).mp hc6) (by omega)
    · skip
      have hc6 : ¬ 512 ≤ i := fun z9 => hc6 ((nI_leI (by omega) (by omega)).mpr z9)
      refine pr_aload_n tX8_allInOrder_9 1 rfl ?_
      refine pr_geta (j := 21) tX8_allInOrder_10 rfl rfl rfl rfl ?_
      refine pr_iload_n tX8_allInOrder_13 0 rfl ?_
      refine pr_iconst (v := nI 0) tX8_allInOrder_14 rfl ?_
      refine pr_zas tX8_allInOrder_15 i rfl rfl (by omega) (by decide) (by decide) ?_
      obtain ⟨σ1, eσ1⟩ : ∃ z : pST, z = (pm_ui (clM σ.1 i, σ.2).1 21 i (nI 0), (clM σ.1 i, σ.2).2) := ⟨_, rfl⟩
      rw [← eσ1]
      refine pr_aload_n tX8_allInOrder_16 1 rfl ?_
      refine pr_geta (j := 22) tX8_allInOrder_17 rfl rfl rfl rfl ?_
      refine pr_iload_n tX8_allInOrder_20 0 rfl ?_
      refine pr_iconst (v := nI 0) tX8_allInOrder_21 rfl ?_
      refine pr_zas tX8_allInOrder_22 i rfl rfl (by omega) (by decide) (by decide) ?_
      obtain ⟨σ2, eσ2⟩ : ∃ z : pST, z = (pm_ui σ1.1 22 i (nI 0), σ1.2) := ⟨_, rfl⟩
      rw [← eσ2]
      refine pr_iinc (v := (nI (i + 1))) (L' := [(1, .inl (nI (i + 1))), (0, .inr (.inr 0))]) tX8_allInOrder_23 0 rfl (nI_1 _) (by decide) rfl ?_
      refine pr_goto (pc' := 2) tX8_allInOrder_26 rfl ?_
      refine pR_sub (L' := [(1, .inl (nI (i + 1))), (0, .inr (.inr 0))]) [0, 1] rfl ?_
      have e9 : σ2 = (clM σ.1 (i + 1), σ.2) := by rw [eσ2, eσ1]; exact Prod.ext clM_s rfl
      rw [e9]
      exact ih (i + 1) (by omega)

set_option maxRecDepth 100000 in
theorem in_X8_allInOrder {B : BkS} {bd c : Nat} {T : TbS} (hB : BkOK B) (hc : c < B.n) (hT : nph T c) {post : pRT → Prop} : ∀ (m : Nat) (σ : pST) (V : RnS), RM σ B bd V → (∀ d, d < 16 → 1 ≤ V.bg d → AtOK d (V.am d)) → V.T = T → 1 ≤ V.bg c → B.ac c ≤ (V.am c).p + m → (∀ ρ, RM ρ B bd (accS V c (runA B T c m (V.am c)).1 (runA B T c m (V.am c)).2) → FrR σ ρ → pR shM tX8_allInOrder fX8_allInOrder qX8_allInOrder lX8_allInOrder 4 0 post 61 [(1, .inl (nI c)), (0, .inr (.inr 0))] [] ρ) → pR shM tX8_allInOrder fX8_allInOrder qX8_allInOrder lX8_allInOrder 4 0 post 44 [(1, .inl (nI c)), (0, .inr (.inr 0))] [] σ := by
  have hn := hB.n
  have hc16 : c < 16 := Nat.lt_of_lt_of_le hc hn
  intro m
  induction m with
  | zero =>
    intro σ V h hok eT hbg hp K
    have hA := ((h.1.a c hc16).am hbg).1
    have hk := hok c hc16 hbg
    have eo := rm_isOver hB h.1.bk hA hk hc
    rw [if_pos (.inr hp)] at eo
    have e0 : accS V c (runA B T c 0 (V.am c)).1 (runA B T c 0 (V.am c)).2 = V := acc_0
    rw [e0] at K
    refine pr_aload_n tX8_allInOrder_44 1 rfl ?_
    refine pr_iload_n tX8_allInOrder_45 0 rfl ?_
    refine pr_callV tX8_allInOrder_46 rfl ⟨Nat.le_of_ble_eq_true rfl, Nat.le_of_ble_eq_true rfl, rfl⟩ (eo) ?_
    refine pR_eq (st' := [.inl (nI 1)]) rfl rfl ?_
    refine pr_if_ne (pc' := 61) tX8_allInOrder_49 rfl (fun hc49 => ?_) (fun hc49 => ?_)
    · skip
      refine pR_sub (L' := [(1, .inl (nI c)), (0, .inr (.inr 0))]) [0, 1] rfl ?_
      exact K σ h ⟨rfl, rfl⟩
    · skip
      exact absurd (by decide) hc49
  | succ m ih =>
    intro σ V h hok eT hbg hp K
    have hA := ((h.1.a c hc16).am hbg).1
    have hk := hok c hc16 hbg
    have eo := rm_isOver hB h.1.bk hA hk hc
    by_cases ho : overA B c (V.am c)
    · rw [if_pos ho] at eo
      have eR : runA B T c (m + 1) (V.am c) = (V.am c, 0) := by unfold runA; rw [if_pos ho]
      rw [eR] at K
      have e0 : accS V c (V.am c, 0).1 (V.am c, 0).2 = V := acc_0
      rw [e0] at K
      refine pr_aload_n tX8_allInOrder_44 1 rfl ?_
      refine pr_iload_n tX8_allInOrder_45 0 rfl ?_
      refine pr_callV tX8_allInOrder_46 rfl ⟨Nat.le_of_ble_eq_true rfl, Nat.le_of_ble_eq_true rfl, rfl⟩ (eo) ?_
      refine pR_eq (st' := [.inl (nI 1)]) rfl rfl ?_
      refine pr_if_ne (pc' := 61) tX8_allInOrder_49 rfl (fun hc49 => ?_) (fun hc49 => ?_)
      · skip
        refine pR_sub (L' := [(1, .inl (nI c)), (0, .inr (.inr 0))]) [0, 1] rfl ?_
        exact K σ h ⟨rfl, rfl⟩
      · skip
        exact absurd (by decide) hc49
    · rw [if_neg ho] at eo
      have eR : runA B T c (m + 1) (V.am c) = ((runA B T c m (doA B T c (V.am c)).2).1, (runA B T c m (doA B T c (V.am c)).2).2 + 1) := by
        have : runA B T c (m + 1) (V.am c) = if overA B c (V.am c) then (V.am c, 0) else ((runA B T c m (doA B T c (V.am c)).2).1, (runA B T c m (doA B T c (V.am c)).2).2 + 1) := rfl
        rw [this, if_neg ho]
      rw [eR] at K
      have tb : RMtb σ T 16 := by rw [← eT]; exact h.1.tb
      obtain ⟨ρ, e1, r1, f1, d2, d3⟩ := rm_doAct (T := T) hB h.1.bk ⟨fun k j hk hj => tb.st k j hk (Nat.lt_trans hj hc16), fun k j hk hj => tb.nv k j hk (Nat.lt_trans hj hc16), tb.bf⟩ h.1.z hA hk hc ho
      have hd := doA_n (B := B) (A := V.am c) hT
      rw [hd] at e1 d2 d3
      have hdp := doA_p (B := B) (T := T) (c := c) (A := V.am c) (A' := (doA B T c (V.am c)).2) (by rw [← hd])
      have hok2 := doA_ok (T := T) hB hc16 hk ho
      obtain ⟨r2, f2⟩ := rm_act h hok hc16 hbg r1 f1 (by rw [d2]; rfl) (by rw [d3]; rfl)
      have ea : (actS V c (doA B T c (V.am c)).2).am c = (doA B T c (V.am c)).2 := fup_s
      have z := ih ρ (actS V c (doA B T c (V.am c)).2) r2 (fun d hd z => by
          show AtOK d (fup V.am c (doA B T c (V.am c)).2 d)
          by_cases e : d = c
          · subst e; rw [fup_s]; exact hok2
          · rw [fup_n e]; exact hok d hd z) eT hbg (by rw [ea]; clear h r2 hA; omega) (fun τ q1 q2 => K τ (by
          rw [ea, acc_s] at q1
          exact q1) (f2.trans q2))
      refine pr_aload_n tX8_allInOrder_44 1 rfl ?_
      refine pr_iload_n tX8_allInOrder_45 0 rfl ?_
      refine pr_callV tX8_allInOrder_46 rfl ⟨Nat.le_of_ble_eq_true rfl, Nat.le_of_ble_eq_true rfl, rfl⟩ (eo) ?_
      refine pR_eq (st' := [.inl (nI 0)]) rfl rfl ?_
      refine pr_if_ne (pc' := 61) tX8_allInOrder_49 rfl (fun hc49 => ?_) (fun hc49 => ?_)
      · skip
        exact absurd hc49 (by decide)
      · skip
        refine pr_aload_n tX8_allInOrder_52 1 rfl ?_
        refine pr_iload_n tX8_allInOrder_53 0 rfl ?_
        refine pr_callV tX8_allInOrder_54 rfl ⟨Nat.le_of_ble_eq_true rfl, Nat.le_of_ble_eq_true rfl, rfl⟩ (e1) ?_
        refine pR_eq (st' := [.inl (-1)]) rfl rfl ?_
        refine pr_istore_n (L' := [(2, .inl (-1)), (1, .inl (nI c)), (0, .inr (.inr 0))]) tX8_allInOrder_57 (by decide) rfl ?_
        refine pr_goto (pc' := 44) tX8_allInOrder_58 rfl ?_
        refine pR_sub (L' := [(1, .inl (nI c)), (0, .inr (.inr 0))]) [1, 2] rfl ?_
        exact z

set_option maxRecDepth 100000 in
theorem lb_X8_allInOrder {σ : pST} {c : Nat} (hc : c < 16) {post : pRT → Prop} (K : pR shM tX8_allInOrder fX8_allInOrder qX8_allInOrder lX8_allInOrder 4 0 post 130 [(1, .inl (nI c)), (0, .inr (.inr 0))] [] (apI σ c 32, apJ σ c 32)) : ∀ (m i : Nat), i + m = 32 → pR shM tX8_allInOrder fX8_allInOrder qX8_allInOrder lX8_allInOrder 4 0 post 63 [(2, .inl (nI i)), (1, .inl (nI c)), (0, .inr (.inr 0))] [] (apI σ c i, apJ σ c i) := by
  intro m
  induction m with
  | zero =>
    intro i hi
    refine pr_iload_n tX8_allInOrder_63 0 rfl ?_
    refine pr_bipush (v := nI 32) tX8_allInOrder_64 rfl ?_
    refine pr_ic_ge (pc' := 130) tX8_allInOrder_66 rfl (fun hc66 => ?_) (fun hc66 => ?_)
    · skip
      have hc66 : 32 ≤ i := (nI_leI (by omega) (by omega)).mp hc66
      refine pR_sub (L' := [(1, .inl (nI c)), (0, .inr (.inr 0))]) [1, 2] rfl ?_
      rw [show i = 32 by omega]
      exact K
    · skip
      exact absurd ((nI_leI (by omega) (by omega)).mpr (by omega)) hc66
  | succ m ih =>
    intro i hi
    refine pr_iload_n tX8_allInOrder_63 0 rfl ?_
    refine pr_bipush (v := nI 32) tX8_allInOrder_64 rfl ?_
    refine pr_ic_ge (pc' := 130) tX8_allInOrder_66 rfl (fun hc66 => ?_) (fun hc66 => ?_)
    · skip
      exact absurd ((nI_leI (by omega) (by omega)).mp hc66) (by omega)
    · skip
      have hc66 : ¬ 32 ≤ i := fun z9 => hc66 ((nI_leI (by omega) (by omega)).mpr z9)
      refine pr_bipush (v := nI 32) tX8_allInOrder_69 rfl ?_
      refine pr_iload_n tX8_allInOrder_71 1 rfl ?_
      refine pr_imul (v := (nI (32 * c))) tX8_allInOrder_72 (pk_mul _ _) ?_
      refine pr_iload_n tX8_allInOrder_73 0 rfl ?_
      refine pr_iadd (v := (nI (32 * c + i))) tX8_allInOrder_74 (nI_add _ _) ?_
      refine pr_istore_n (L' := [(3, .inl (nI (32 * c + i))), (2, .inl (nI i)), (1, .inl (nI c)), (0, .inr (.inr 0))]) tX8_allInOrder_75 (by decide) rfl ?_
      refine pr_aload_n tX8_allInOrder_76 3 rfl ?_
      refine pr_geta (j := 21) tX8_allInOrder_77 rfl rfl rfl rfl ?_
      refine pr_iload_n tX8_allInOrder_80 0 rfl ?_
      refine pr_aload_n tX8_allInOrder_81 3 rfl ?_
      refine pr_geta (j := 10) tX8_allInOrder_82 rfl rfl rfl rfl ?_
      refine pr_iload_n tX8_allInOrder_85 0 rfl ?_
      refine pr_zal tX8_allInOrder_86 (32 * c + i) rfl rfl (by omega) (by decide) ?_
      refine pR_topi (y := (σ.1 10 (32 * c + i))) (congrFun (ap_o (σ := σ) (c := c) (m := i) (x := 10) (by decide) (by decide)) _) ?_
      refine pr_if_eq (pc' := 103) tX8_allInOrder_87 rfl (fun hc87 => ?_) (fun hc87 => ?_)
      · skip
        skip
        refine pr_iconst (v := nI 0) tX8_allInOrder_103 rfl ?_
        refine pr_zas tX8_allInOrder_104 (32 * c + i) rfl rfl (by omega) (by decide) (by decide) ?_
        obtain ⟨σ1, eσ1⟩ : ∃ z : pST, z = (pm_ui (apI σ c i, apJ σ c i).1 21 (32 * c + i) (nI 0), (apI σ c i, apJ σ c i).2) := ⟨_, rfl⟩
        rw [← eσ1]
        refine pr_aload_n tX8_allInOrder_105 3 rfl ?_
        refine pr_geta (j := 23) tX8_allInOrder_106 rfl rfl rfl rfl ?_
        refine pr_iload_n tX8_allInOrder_109 0 rfl ?_
        refine pr_aload_n tX8_allInOrder_110 3 rfl ?_
        refine pr_geta (j := 11) tX8_allInOrder_111 rfl rfl rfl rfl ?_
        refine pr_iload_n tX8_allInOrder_114 0 rfl ?_
        refine pr_lal tX8_allInOrder_115 (32 * c + i) rfl rfl (by omega) (by decide) ?_
        refine pR_topl (y := σ.2 11 (32 * c + i)) (by rw [eσ1]; exact congrFun (apJ_o (σ := σ) (c := c) (m := i) (x := 11) (by decide)) _) ?_
        refine pr_las tX8_allInOrder_116 (32 * c + i) rfl rfl (by omega) (by decide) ?_
        obtain ⟨σ2, eσ2⟩ : ∃ z : pST, z = (σ1.1, pm_uj σ1.2 23 (32 * c + i) (σ.2 11 (32 * c + i))) := ⟨_, rfl⟩
        rw [← eσ2]
        refine pr_aload_n tX8_allInOrder_117 3 rfl ?_
        refine pr_geta (j := 24) tX8_allInOrder_118 rfl rfl rfl rfl ?_
        refine pr_iload_n tX8_allInOrder_121 0 rfl ?_
        refine pr_iconst (v := nI 0) tX8_allInOrder_122 rfl ?_
        refine pr_ias tX8_allInOrder_123 (32 * c + i) rfl rfl (by omega) (by decide) ?_
        obtain ⟨σ3, eσ3⟩ : ∃ z : pST, z = (pm_ui σ2.1 24 (32 * c + i) (nI 0), σ2.2) := ⟨_, rfl⟩
        rw [← eσ3]
        refine pr_iinc (v := (nI (i + 1))) (L' := [(2, .inl (nI (i + 1))), (3, .inl (nI (32 * c + i))), (1, .inl (nI c)), (0, .inr (.inr 0))]) tX8_allInOrder_124 1 rfl (nI_1 _) (by decide) rfl ?_
        refine pr_goto (pc' := 63) tX8_allInOrder_127 rfl ?_
        refine pR_sub (L' := [(2, .inl (nI (i + 1))), (1, .inl (nI c)), (0, .inr (.inr 0))]) [0, 2, 3] rfl ?_
        have e9 : σ3 = (apI σ c (i + 1), apJ σ c (i + 1)) := by
          rw [eσ3, eσ2, eσ1]
          refine ap_s ?_
          first
            | exact (if_pos ⟨hc87, hc96⟩).symm
            | exact (if_neg (fun z => hc96 z.2)).symm
            | exact (if_neg (fun z => z.1 hc87)).symm
        rw [e9]
        exact ih (i + 1) (by omega)
      · skip
        skip
        refine pr_aload_n tX8_allInOrder_90 3 rfl ?_
        refine pr_geta (j := 9) tX8_allInOrder_91 rfl rfl rfl rfl ?_
        refine pr_iload_n tX8_allInOrder_94 2 rfl ?_
        refine pr_zal tX8_allInOrder_95 c rfl rfl (by omega) (by decide) ?_
        refine pR_topi (y := (σ.1 9 c)) (congrFun (ap_o (σ := σ) (c := c) (m := i) (x := 9) (by decide) (by decide)) _) ?_
        refine pr_if_ne (pc' := 103) tX8_allInOrder_96 rfl (fun hc96 => ?_) (fun hc96 => ?_)
        · skip
          skip
          refine pr_iconst (v := nI 0) tX8_allInOrder_103 rfl ?_
          refine pr_zas tX8_allInOrder_104 (32 * c + i) rfl rfl (by omega) (by decide) (by decide) ?_
          obtain ⟨σ4, eσ4⟩ : ∃ z : pST, z = (pm_ui (apI σ c i, apJ σ c i).1 21 (32 * c + i) (nI 0), (apI σ c i, apJ σ c i).2) := ⟨_, rfl⟩
          rw [← eσ4]
          refine pr_aload_n tX8_allInOrder_105 3 rfl ?_
          refine pr_geta (j := 23) tX8_allInOrder_106 rfl rfl rfl rfl ?_
          refine pr_iload_n tX8_allInOrder_109 0 rfl ?_
          refine pr_aload_n tX8_allInOrder_110 3 rfl ?_
          refine pr_geta (j := 11) tX8_allInOrder_111 rfl rfl rfl rfl ?_
          refine pr_iload_n tX8_allInOrder_114 0 rfl ?_
          refine pr_lal tX8_allInOrder_115 (32 * c + i) rfl rfl (by omega) (by decide) ?_
          refine pR_topl (y := σ.2 11 (32 * c + i)) (by rw [eσ4]; exact congrFun (apJ_o (σ := σ) (c := c) (m := i) (x := 11) (by decide)) _) ?_
          refine pr_las tX8_allInOrder_116 (32 * c + i) rfl rfl (by omega) (by decide) ?_
          obtain ⟨σ5, eσ5⟩ : ∃ z : pST, z = (σ4.1, pm_uj σ4.2 23 (32 * c + i) (σ.2 11 (32 * c + i))) := ⟨_, rfl⟩
          rw [← eσ5]
          refine pr_aload_n tX8_allInOrder_117 3 rfl ?_
          refine pr_geta (j := 24) tX8_allInOrder_118 rfl rfl rfl rfl ?_
          refine pr_iload_n tX8_allInOrder_121 0 rfl ?_
          refine pr_iconst (v := nI 0) tX8_allInOrder_122 rfl ?_
          refine pr_ias tX8_allInOrder_123 (32 * c + i) rfl rfl (by omega) (by decide) ?_
          obtain ⟨σ6, eσ6⟩ : ∃ z : pST, z = (pm_ui σ5.1 24 (32 * c + i) (nI 0), σ5.2) := ⟨_, rfl⟩
          rw [← eσ6]
          refine pr_iinc (v := (nI (i + 1))) (L' := [(2, .inl (nI (i + 1))), (3, .inl (nI (32 * c + i))), (1, .inl (nI c)), (0, .inr (.inr 0))]) tX8_allInOrder_124 1 rfl (nI_1 _) (by decide) rfl ?_
          refine pr_goto (pc' := 63) tX8_allInOrder_127 rfl ?_
          refine pR_sub (L' := [(2, .inl (nI (i + 1))), (1, .inl (nI c)), (0, .inr (.inr 0))]) [0, 2, 3] rfl ?_
          have e9 : σ6 = (apI σ c (i + 1), apJ σ c (i + 1)) := by
            rw [eσ6, eσ5, eσ4]
            refine ap_s ?_
            first
              | exact (if_pos ⟨hc87, hc96⟩).symm
              | exact (if_neg (fun z => hc96 z.2)).symm
              | exact (if_neg (fun z => z.1 hc87)).symm
          rw [e9]
          exact ih (i + 1) (by omega)
        · skip
          have hc96 := Decidable.not_not.mp hc96
          refine pr_iconst (v := nI 1) tX8_allInOrder_99 rfl ?_
          refine pr_goto (pc' := 104) tX8_allInOrder_100 rfl ?_
          refine pr_zas tX8_allInOrder_104 (32 * c + i) rfl rfl (by omega) (by decide) (by decide) ?_
          obtain ⟨σ7, eσ7⟩ : ∃ z : pST, z = (pm_ui (apI σ c i, apJ σ c i).1 21 (32 * c + i) (nI 1), (apI σ c i, apJ σ c i).2) := ⟨_, rfl⟩
          rw [← eσ7]
          refine pr_aload_n tX8_allInOrder_105 3 rfl ?_
          refine pr_geta (j := 23) tX8_allInOrder_106 rfl rfl rfl rfl ?_
          refine pr_iload_n tX8_allInOrder_109 0 rfl ?_
          refine pr_aload_n tX8_allInOrder_110 3 rfl ?_
          refine pr_geta (j := 11) tX8_allInOrder_111 rfl rfl rfl rfl ?_
          refine pr_iload_n tX8_allInOrder_114 0 rfl ?_
          refine pr_lal tX8_allInOrder_115 (32 * c + i) rfl rfl (by omega) (by decide) ?_
          refine pR_topl (y := σ.2 11 (32 * c + i)) (by rw [eσ7]; exact congrFun (apJ_o (σ := σ) (c := c) (m := i) (x := 11) (by decide)) _) ?_
          refine pr_las tX8_allInOrder_116 (32 * c + i) rfl rfl (by omega) (by decide) ?_
          obtain ⟨σ8, eσ8⟩ : ∃ z : pST, z = (σ7.1, pm_uj σ7.2 23 (32 * c + i) (σ.2 11 (32 * c + i))) := ⟨_, rfl⟩
          rw [← eσ8]
          refine pr_aload_n tX8_allInOrder_117 3 rfl ?_
          refine pr_geta (j := 24) tX8_allInOrder_118 rfl rfl rfl rfl ?_
          refine pr_iload_n tX8_allInOrder_121 0 rfl ?_
          refine pr_iconst (v := nI 0) tX8_allInOrder_122 rfl ?_
          refine pr_ias tX8_allInOrder_123 (32 * c + i) rfl rfl (by omega) (by decide) ?_
          obtain ⟨σ9, eσ9⟩ : ∃ z : pST, z = (pm_ui σ8.1 24 (32 * c + i) (nI 0), σ8.2) := ⟨_, rfl⟩
          rw [← eσ9]
          refine pr_iinc (v := (nI (i + 1))) (L' := [(2, .inl (nI (i + 1))), (3, .inl (nI (32 * c + i))), (1, .inl (nI c)), (0, .inr (.inr 0))]) tX8_allInOrder_124 1 rfl (nI_1 _) (by decide) rfl ?_
          refine pr_goto (pc' := 63) tX8_allInOrder_127 rfl ?_
          refine pR_sub (L' := [(2, .inl (nI (i + 1))), (1, .inl (nI c)), (0, .inr (.inr 0))]) [0, 2, 3] rfl ?_
          have e9 : σ9 = (apI σ c (i + 1), apJ σ c (i + 1)) := by
            rw [eσ9, eσ8, eσ7]
            refine ap_s ?_
            first
              | exact (if_pos ⟨hc87, hc96⟩).symm
              | exact (if_neg (fun z => hc96 z.2)).symm
              | exact (if_neg (fun z => z.1 hc87)).symm
          rw [e9]
          exact ih (i + 1) (by omega)

set_option maxRecDepth 100000 in
theorem lp_X8_allInOrder {B : BkS} {bd : Nat} {S : RnS} {σ0 : pST} (hB : BkOK B) (hok : ∀ d, d < 16 → 1 ≤ S.bg d → AtOK d (S.am d)) : ∀ (m i : Nat) (σ : pST), i + m = B.n → RM σ B bd (ordS B S i) → FrR σ0 σ → pR shM tX8_allInOrder fX8_allInOrder qX8_allInOrder lX8_allInOrder 4 0 (fun x => x.2 = none ∧ RM x.1 B bd (ordS B S B.n) ∧ FrR σ0 x.1) 31 [(1, .inl (nI i)), (0, .inr (.inr 0))] [] σ := by
  have hn1 := hB.n
  intro m
  induction m with
  | zero =>
    intro i σ hi h hf
    refine pr_iload_n tX8_allInOrder_31 0 rfl ?_
    refine pr_aload_n tX8_allInOrder_32 1 rfl ?_
    refine pr_get0 tX8_allInOrder_33 rfl rfl rfl ?_
    refine pR_topi (y := (nI B.n)) (h.1.bk.n) ?_
    refine pr_ic_ge (pc' := 136) tX8_allInOrder_36 rfl (fun hc36 => ?_) (fun hc36 => ?_)
    · skip
      have hc36 : B.n ≤ i := (nI_leI (by omega) (by omega)).mp hc36
      refine pr_ret tX8_allInOrder_136 rfl ?_
      exact ⟨rfl, by rw [show B.n = i by clear h; omega]; exact h, hf⟩
    · skip
      exact absurd ((nI_leI (by omega) (by omega)).mpr (by omega)) hc36
  | succ m ih =>
    intro i σ hi h hf
    have hi16 : i < 16 := by clear h; omega
    have hoki := ordS_ok hB hok i (by clear h; omega)
    obtain ⟨σ1, e, r1, f1⟩ := rm_beg h hoki hi16
    have ea : (begS (ordS B S i) i).am i = at0 := fup_s
    have hbg1 : 1 ≤ (begS (ordS B S i) i).bg i := by
      show 1 ≤ fup (ordS B S i).bg i ((ordS B S i).bg i + 1) i
      rw [fup_s]
      exact Nat.le_add_left _ _
    have hok1 : ∀ d, d < 16 → 1 ≤ (begS (ordS B S i) i).bg d → AtOK d ((begS (ordS B S i) i).am d) := fun d hd z => by
      show AtOK d (fup (ordS B S i).am i at0 d)
      by_cases e : d = i
      · subst e; rw [fup_s]; exact at0_ok d
      · rw [fup_n e]
        refine hoki d hd ?_
        have z' : 1 ≤ fup (ordS B S i).bg i ((ordS B S i).bg i + 1) d := z
        rw [fup_n e] at z'
        exact z'
    refine pr_iload_n tX8_allInOrder_31 0 rfl ?_
    refine pr_aload_n tX8_allInOrder_32 1 rfl ?_
    refine pr_get0 tX8_allInOrder_33 rfl rfl rfl ?_
    refine pR_topi (y := (nI B.n)) (h.1.bk.n) ?_
    refine pr_ic_ge (pc' := 136) tX8_allInOrder_36 rfl (fun hc36 => ?_) (fun hc36 => ?_)
    · skip
      exact absurd ((nI_leI (by omega) (by omega)).mp hc36) (by omega)
    · skip
      have hc36 : ¬ B.n ≤ i := fun z9 => hc36 ((nI_leI (by omega) (by omega)).mpr z9)
      refine pr_aload_n tX8_allInOrder_39 1 rfl ?_
      refine pr_iload_n tX8_allInOrder_40 0 rfl ?_
      refine pr_callV tX8_allInOrder_41 rfl ⟨Nat.le_of_ble_eq_true rfl, Nat.le_of_ble_eq_true rfl, rfl⟩ (e) ?_
      refine pR_eq (st' := []) rfl rfl ?_
      refine pR_sub (L' := [(1, .inl (nI i)), (0, .inr (.inr 0))]) [0, 1] rfl ?_
      refine in_X8_allInOrder (T := ordT B S.T.bf i) hB (show i < B.n by clear h r1; omega) ord_nph 12 σ1 (begS (ordS B S i) i) r1 hok1 (ordS_T i) hbg1 (by rw [ea]; exact hB.ac i hi16) ?_
      intro σ2 q1 q2
      rw [ea] at q1
      obtain ⟨r9, f9⟩ := rm_apub hi16 q1
      refine pr_iconst (v := nI 0) tX8_allInOrder_61 rfl ?_
      refine pr_istore_n (L' := [(2, .inl (nI 0)), (1, .inl (nI i)), (0, .inr (.inr 0))]) tX8_allInOrder_62 (by decide) rfl ?_
      refine pR_sub (L' := [(2, .inl (nI 0)), (1, .inl (nI i)), (0, .inr (.inr 0))]) [0, 1, 2] rfl ?_
      have z := lb_X8_allInOrder (σ := σ2) (c := i) hi16 (post := (fun x => x.2 = none ∧ RM x.1 B bd (ordS B S B.n) ∧ FrR σ0 x.1)) ?_ 32 0 (by omega)
      · rw [ap_0] at z
        exact z
      refine pr_iinc (v := (nI (i + 1))) (L' := [(1, .inl (nI (i + 1))), (0, .inr (.inr 0))]) tX8_allInOrder_130 0 rfl (nI_1 _) (by decide) rfl ?_
      refine pr_goto (pc' := 31) tX8_allInOrder_133 rfl ?_
      refine pR_sub (L' := [(1, .inl (nI (i + 1))), (0, .inr (.inr 0))]) [0, 1] rfl ?_
      exact ih (i + 1) _ (by clear h r1 q1 r9; omega) r9 (hf.trans (f1.trans (q2.trans f9)))

set_option maxRecDepth 100000 in
theorem rm_allInOrder {σ : pST} {B : BkS} {bd : Nat} {S : RnS} (hB : BkOK B) (hok : ∀ d, d < 16 → 1 ≤ S.bg d → AtOK d (S.am d)) (h : RM σ B bd S) : ∃ ρ, kX8_allInOrder σ [.inr (.inr 0)] = some (ρ, none) ∧ RM ρ B bd (ordS B S B.n) ∧ FrR σ ρ := by
  obtain ⟨r0, f0⟩ := rm_clr h
  have key : ∃ q, kX8_allInOrder σ [.inr (.inr 0)] = some q ∧ (fun x => x.2 = none ∧ RM x.1 B bd (ordS B S B.n) ∧ FrR σ x.1) q := by
    refine pR_met (post := (fun x => x.2 = none ∧ RM x.1 B bd (ordS B S B.n) ∧ FrR σ x.1)) rfl (Nat.le_of_ble_eq_true rfl) ?_
    show pR _ _ _ _ _ _ _ _ 0 [(0, .inr (.inr 0))] [] σ
    refine pr_iconst (v := nI 0) tX8_allInOrder_0 rfl ?_
    refine pr_istore_n (L' := [(1, .inl (nI 0)), (0, .inr (.inr 0))]) tX8_allInOrder_1 (by decide) rfl ?_
    refine pR_sub (L' := [(1, .inl (nI 0)), (0, .inr (.inr 0))]) [0, 1] rfl ?_
    have z := cl_X8_allInOrder (σ := σ) (post := (fun x => x.2 = none ∧ RM x.1 B bd (ordS B S B.n) ∧ FrR σ x.1)) ?_ 512 0 (by omega)
    · rw [clM_0] at z
      exact z
    refine pr_iconst (v := nI 0) tX8_allInOrder_29 rfl ?_
    refine pr_istore_n (L' := [(1, .inl (nI 0)), (0, .inr (.inr 0))]) tX8_allInOrder_30 (by decide) rfl ?_
    refine pR_sub (L' := [(1, .inl (nI 0)), (0, .inr (.inr 0))]) [0, 1] rfl ?_
    exact lp_X8_allInOrder hB hok B.n 0 _ (Nat.zero_add _) r0 f0
  obtain ⟨⟨ρ, r⟩, k1, k2, k3⟩ := key
  have k2' : r = none := k2
  rw [k2'] at k1
  exact ⟨ρ, k1, k3⟩
