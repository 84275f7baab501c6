/-! ===== the reference's workers, method by method ===== -/
set_option maxRecDepth 100000 in
theorem ev_X8_toRun (σ : pST) {w c : Nat} {ρ : pST} (hw : w < 4) (hc : c < 16) (hb : kX8_begin (pm_ui (pm_ui (pm_ui (σ.1) 25 c (nI 1)) 28 w (nI 1)) 29 w (nI c), σ.2) [.inr (.inr 0), .inl (nI c)] = some (ρ, none)) : kX8_toRun σ [.inr (.inr 0), .inl (nI w), .inl (nI c)] = some ((ρ, none)) := by
  have key : ∃ x, kX8_toRun σ [.inr (.inr 0), .inl (nI w), .inl (nI c)] = some x ∧ x = (ρ, none) := by
    refine pR_met (post := fun x => x = (ρ, none)) rfl (Nat.le_of_ble_eq_true rfl) ?_
    show pR _ _ _ _ _ _ _ _ 0 [(0, .inr (.inr 0)), (1, .inl (nI w)), (2, .inl (nI c))] [] σ
    refine pr_aload_n tX8_toRun_0 0 rfl ?_
    refine pr_geta (j := 25) tX8_toRun_1 rfl rfl rfl rfl ?_
    refine pr_iload_n tX8_toRun_4 2 rfl ?_
    refine pr_iconst (v := nI 1) tX8_toRun_5 rfl ?_
    refine pr_ias tX8_toRun_6 c rfl rfl (by omega) (by decide) ?_
    obtain ⟨σ1, eσ1⟩ : ∃ z : pST, z = (pm_ui σ.1 25 c (nI 1), σ.2) := ⟨_, rfl⟩
    rw [← eσ1]
    refine pr_aload_n tX8_toRun_7 0 rfl ?_
    refine pr_geta (j := 28) tX8_toRun_8 rfl rfl rfl rfl ?_
    refine pr_iload_n tX8_toRun_11 1 rfl ?_
    refine pr_iconst (v := nI 1) tX8_toRun_12 rfl ?_
    refine pr_ias tX8_toRun_13 w rfl rfl (by omega) (by decide) ?_
    obtain ⟨σ2, eσ2⟩ : ∃ z : pST, z = (pm_ui σ1.1 28 w (nI 1), σ1.2) := ⟨_, rfl⟩
    rw [← eσ2]
    refine pr_aload_n tX8_toRun_14 0 rfl ?_
    refine pr_geta (j := 29) tX8_toRun_15 rfl rfl rfl rfl ?_
    refine pr_iload_n tX8_toRun_18 1 rfl ?_
    refine pr_iload_n tX8_toRun_19 2 rfl ?_
    refine pr_ias tX8_toRun_20 w rfl rfl (by omega) (by decide) ?_
    obtain ⟨σ3, eσ3⟩ : ∃ z : pST, z = (pm_ui σ2.1 29 w (nI c), σ2.2) := ⟨_, rfl⟩
    rw [← eσ3]
    refine pr_aload_n tX8_toRun_21 0 rfl ?_
    refine pr_iload_n tX8_toRun_22 2 rfl ?_
    refine pr_callV tX8_toRun_23 rfl ⟨Nat.le_of_ble_eq_true rfl, Nat.le_of_ble_eq_true rfl, rfl⟩ (by rw [eσ3, eσ2, eσ1]; exact hb) ?_
    refine pR_eq (st' := []) rfl rfl ?_
    refine pr_ret tX8_toRun_26 rfl ?_
    rfl
  obtain ⟨x, h1, h2⟩ := key
  rw [h1, h2]

def idl (tk : Nat → Nat) : Nat → Nat
  | 0 => 1
  | i + 1 => if idl tk i = 1 ∧ tk i = 0 then 1 else 0
theorem idl_le {tk : Nat → Nat} : ∀ i, idl tk i ≤ 1
  | 0 => Nat.le_refl _
  | i + 1 => by unfold idl; split <;> omega
theorem idl_iff {tk : Nat → Nat} : ∀ i, idl tk i = 1 ↔ ∀ w, w < i → tk w = 0
  | 0 => ⟨fun _ w h => absurd h (Nat.not_lt_zero _), fun _ => rfl⟩
  | i + 1 => by
    have ih := idl_iff (tk := tk) i
    unfold idl
    constructor
    · intro h w hw
      split at h
      · rename_i q
        by_cases e : w = i
        · rw [e]; exact q.2
        · exact ih.mp q.1 w (by omega)
      · cases h
    · intro h
      rw [if_pos ⟨ih.mpr fun w hw => h w (by omega), h i (by omega)⟩]

set_option maxRecDepth 100000 in
theorem lp_X8_isDone (σ : pST) {sz : Nat} {tk : Nat → Nat} (hz1 : sz ≤ 4) (hT : ∀ w, w < sz → σ.1 28 w = nI (tk w) ∧ tk w ≤ 2) {rr lr n : Nat} (hrr : σ.1 0 37 = nI rr) (hr1 : rr ≤ 16) (hlr : σ.1 0 38 = nI lr) (hl1 : lr ≤ 16) (hn : σ.1 0 1 = nI n) (hn1 : n ≤ 16) : ∀ (m i : Nat), i + m = sz → pR shM tX8_isDone fX8_isDone qX8_isDone lX8_isDone 4 2 (fun x => x = (σ, some (.inl (if idl tk sz = 1 ∧ n ≤ rr ∧ n ≤ lr then nI 1 else nI 0)))) 4 [(3, .inl (nI i)), (2, .inl (nI (idl tk i))), (0, .inr (.inr 0)), (1, .inl (nI sz))] [] σ := by
  intro m
  induction m with
  | zero =>
    intro i hi
    refine pr_iload_n tX8_isDone_4 0 rfl ?_
    refine pr_iload_n tX8_isDone_5 3 rfl ?_
    refine pr_ic_ge (pc' := 34) tX8_isDone_6 rfl (fun hc6 => ?_) (fun hc6 => ?_)
    · skip
      have hc6 : sz ≤ i := (nI_leI (by omega) (by omega)).mp hc6
      have ei : i = sz := by omega
      subst ei
      have hi1 := idl_le (tk := tk) i
      refine pr_iload_n tX8_isDone_34 1 rfl ?_
      refine pr_if_eq (pc' := 64) tX8_isDone_35 rfl (fun hc35 => ?_) (fun hc35 => ?_)
      · skip
        have hc35 : (idl tk i) = 0 := (nI_eq (by omega) (by omega)).mp (by rw [nI_0]; exact hc35)
        refine pr_iconst (v := nI 0) tX8_isDone_64 rfl ?_
        refine pr_zret tX8_isDone_65 rfl (by decide) ?_
        first | (rw [if_pos (by omega)]) | (rw [if_neg (by omega)])
      · skip
        have hc35 : ¬ (idl tk i) = 0 := fun z9 => hc35 (by have z8 := (nI_eq (by omega) (by omega)).mpr z9; rw [nI_0] at z8; exact z8)
        refine pr_aload_n tX8_isDone_38 2 rfl ?_
        refine pr_get0 tX8_isDone_39 rfl rfl rfl ?_
        refine pR_topi (y := (nI rr)) (hrr) ?_
        refine pr_aload_n tX8_isDone_42 2 rfl ?_
        refine pr_get0 tX8_isDone_43 rfl rfl rfl ?_
        refine pR_topi (y := (nI n)) (hn) ?_
        refine pr_ic_lt (pc' := 64) tX8_isDone_46 rfl (fun hc46 => ?_) (fun hc46 => ?_)
        · skip
          have hc46 : rr < n := (nI_ltI (by omega) (by omega)).mp hc46
          refine pr_iconst (v := nI 0) tX8_isDone_64 rfl ?_
          refine pr_zret tX8_isDone_65 rfl (by decide) ?_
          first | (rw [if_pos (by omega)]) | (rw [if_neg (by omega)])
        · skip
          have hc46 : ¬ rr < n := fun z9 => hc46 ((nI_ltI (by omega) (by omega)).mpr z9)
          refine pr_aload_n tX8_isDone_49 2 rfl ?_
          refine pr_get0 tX8_isDone_50 rfl rfl rfl ?_
          refine pR_topi (y := (nI lr)) (hlr) ?_
          refine pr_aload_n tX8_isDone_53 2 rfl ?_
          refine pr_get0 tX8_isDone_54 rfl rfl rfl ?_
          refine pR_topi (y := (nI n)) (hn) ?_
          refine pr_ic_lt (pc' := 64) tX8_isDone_57 rfl (fun hc57 => ?_) (fun hc57 => ?_)
          · skip
            have hc57 : lr < n := (nI_ltI (by omega) (by omega)).mp hc57
            refine pr_iconst (v := nI 0) tX8_isDone_64 rfl ?_
            refine pr_zret tX8_isDone_65 rfl (by decide) ?_
            first | (rw [if_pos (by omega)]) | (rw [if_neg (by omega)])
          · skip
            have hc57 : ¬ lr < n := fun z9 => hc57 ((nI_ltI (by omega) (by omega)).mpr z9)
            refine pr_iconst (v := nI 1) tX8_isDone_60 rfl ?_
            refine pr_goto (pc' := 65) tX8_isDone_61 rfl ?_
            refine pr_zret tX8_isDone_65 rfl (by decide) ?_
            first | (rw [if_pos (by omega)]) | (rw [if_neg (by omega)])
    · skip
      exact absurd ((nI_leI (by omega) (by omega)).mpr (by omega)) hc6
  | succ m ih =>
    intro i hi
    refine pr_iload_n tX8_isDone_4 0 rfl ?_
    refine pr_iload_n tX8_isDone_5 3 rfl ?_
    refine pr_ic_ge (pc' := 34) tX8_isDone_6 rfl (fun hc6 => ?_) (fun hc6 => ?_)
    · skip
      exact absurd ((nI_leI (by omega) (by omega)).mp hc6) (by omega)
    · skip
      have hc6 : ¬ sz ≤ i := fun z9 => hc6 ((nI_leI (by omega) (by omega)).mpr z9)
      have hi1 := idl_le (tk := tk) i
      obtain ⟨ht1, ht2⟩ := hT i (by omega)
      refine pr_iload_n tX8_isDone_9 1 rfl ?_
      refine pr_if_eq (pc' := 26) tX8_isDone_10 rfl (fun hc10 => ?_) (fun hc10 => ?_)
      · skip
        have hc10 : (idl tk i) = 0 := (nI_eq (by omega) (by omega)).mp (by rw [nI_0]; exact hc10)
        refine pr_iconst (v := nI 0) tX8_isDone_26 rfl ?_
        refine pr_istore_n (L' := [(2, .inl (nI 0)), (3, .inl (nI i)), (0, .inr (.inr 0)), (1, .inl (nI sz))]) tX8_isDone_27 (by decide) rfl ?_
        refine pr_iinc (v := (nI (i + 1))) (L' := [(3, .inl (nI (i + 1))), (2, .inl (nI 0)), (0, .inr (.inr 0)), (1, .inl (nI sz))]) tX8_isDone_28 1 rfl (nI_1 _) (by decide) rfl ?_
        refine pr_goto (pc' := 4) tX8_isDone_31 rfl ?_
        refine pR_sub (L' := [(3, .inl (nI (i + 1))), (2, .inl (nI 0)), (0, .inr (.inr 0)), (1, .inl (nI sz))]) [0, 1, 2, 3] rfl ?_
        have z := ih (i + 1) (by omega)
        rw [show idl tk (i + 1) = 0 from if_neg (by omega)] at z
        exact z
      · skip
        have hc10 : ¬ (idl tk i) = 0 := fun z9 => hc10 (by have z8 := (nI_eq (by omega) (by omega)).mpr z9; rw [nI_0] at z8; exact z8)
        refine pr_aload_n tX8_isDone_13 2 rfl ?_
        refine pr_geta (j := 28) tX8_isDone_14 rfl rfl rfl rfl ?_
        refine pr_iload_n tX8_isDone_17 0 rfl ?_
        refine pr_ial tX8_isDone_18 i rfl rfl (by omega) (by decide) ?_
        refine pR_topi (y := (nI (tk i))) (ht1) ?_
        refine pr_if_ne (pc' := 26) tX8_isDone_19 rfl (fun hc19 => ?_) (fun hc19 => ?_)
        · skip
          have hc19 : ¬ (tk i) = 0 := fun z9 => hc19 (by have z8 := (nI_eq (by omega) (by omega)).mpr z9; rw [nI_0] at z8; exact z8)
          refine pr_iconst (v := nI 0) tX8_isDone_26 rfl ?_
          refine pr_istore_n (L' := [(2, .inl (nI 0)), (3, .inl (nI i)), (0, .inr (.inr 0)), (1, .inl (nI sz))]) tX8_isDone_27 (by decide) rfl ?_
          refine pr_iinc (v := (nI (i + 1))) (L' := [(3, .inl (nI (i + 1))), (2, .inl (nI 0)), (0, .inr (.inr 0)), (1, .inl (nI sz))]) tX8_isDone_28 1 rfl (nI_1 _) (by decide) rfl ?_
          refine pr_goto (pc' := 4) tX8_isDone_31 rfl ?_
          refine pR_sub (L' := [(3, .inl (nI (i + 1))), (2, .inl (nI 0)), (0, .inr (.inr 0)), (1, .inl (nI sz))]) [0, 1, 2, 3] rfl ?_
          have z := ih (i + 1) (by omega)
          rw [show idl tk (i + 1) = 0 from if_neg (by omega)] at z
          exact z
        · skip
          have hc19 : (tk i) = 0 := (nI_eq (by omega) (by omega)).mp (by rw [nI_0]; exact Decidable.not_not.mp hc19)
          refine pr_iconst (v := nI 1) tX8_isDone_22 rfl ?_
          refine pr_goto (pc' := 27) tX8_isDone_23 rfl ?_
          refine pr_istore_n (L' := [(2, .inl (nI 1)), (3, .inl (nI i)), (0, .inr (.inr 0)), (1, .inl (nI sz))]) tX8_isDone_27 (by decide) rfl ?_
          refine pr_iinc (v := (nI (i + 1))) (L' := [(3, .inl (nI (i + 1))), (2, .inl (nI 1)), (0, .inr (.inr 0)), (1, .inl (nI sz))]) tX8_isDone_28 1 rfl (nI_1 _) (by decide) rfl ?_
          refine pr_goto (pc' := 4) tX8_isDone_31 rfl ?_
          refine pR_sub (L' := [(3, .inl (nI (i + 1))), (2, .inl (nI 1)), (0, .inr (.inr 0)), (1, .inl (nI sz))]) [0, 1, 2, 3] rfl ?_
          have z := ih (i + 1) (by omega)
          rw [show idl tk (i + 1) = 1 from if_pos ⟨by omega, by omega⟩] at z
          exact z

set_option maxRecDepth 100000 in
theorem ev_X8_isDone (σ : pST) {sz : Nat} {tk : Nat → Nat} (hz1 : sz ≤ 4) (hT : ∀ w, w < sz → σ.1 28 w = nI (tk w) ∧ tk w ≤ 2) {rr lr n : Nat} (hrr : σ.1 0 37 = nI rr) (hr1 : rr ≤ 16) (hlr : σ.1 0 38 = nI lr) (hl1 : lr ≤ 16) (hn : σ.1 0 1 = nI n) (hn1 : n ≤ 16) : kX8_isDone σ [.inr (.inr 0), .inl (nI sz)] = some ((σ, some (.inl (if idl tk sz = 1 ∧ n ≤ rr ∧ n ≤ lr then nI 1 else nI 0)))) := by
  have key : ∃ x, kX8_isDone σ [.inr (.inr 0), .inl (nI sz)] = some x ∧ x = (σ, some (.inl (if idl tk sz = 1 ∧ n ≤ rr ∧ n ≤ lr then nI 1 else nI 0))) := by
    refine pR_met (post := fun x => x = (σ, some (.inl (if idl tk sz = 1 ∧ n ≤ rr ∧ n ≤ lr then nI 1 else nI 0)))) rfl (Nat.le_of_ble_eq_true rfl) ?_
    show pR _ _ _ _ _ _ _ _ 0 [(0, .inr (.inr 0)), (1, .inl (nI sz))] [] σ
    refine pr_iconst (v := nI 1) tX8_isDone_0 rfl ?_
    refine pr_istore_n (L' := [(2, .inl (nI 1)), (0, .inr (.inr 0)), (1, .inl (nI sz))]) tX8_isDone_1 (by decide) rfl ?_
    refine pr_iconst (v := nI 0) tX8_isDone_2 rfl ?_
    refine pr_istore_n (L' := [(3, .inl (nI 0)), (2, .inl (nI 1)), (0, .inr (.inr 0)), (1, .inl (nI sz))]) tX8_isDone_3 (by decide) rfl ?_
    refine pR_sub (L' := [(3, .inl (nI 0)), (2, .inl (nI 1)), (0, .inr (.inr 0)), (1, .inl (nI sz))]) [0, 1, 2, 3] rfl ?_
    exact lp_X8_isDone σ hz1 hT hrr hr1 hlr hl1 hn hn1 sz 0 (by omega)
  obtain ⟨x, h1, h2⟩ := key
  rw [h1, h2]

set_option maxRecDepth 100000 in
theorem ev_X8_take_ll (σ : pST) {w lr rr n : Nat} (h4 : w < 4) (h0 : σ.1 28 w = nI 0) (hlr : σ.1 0 38 = nI lr) (hl1 : lr ≤ 16) (hrr : σ.1 0 37 = nI rr) (hr1 : rr ≤ 16) (hn : σ.1 0 1 = nI n) (hn1 : n ≤ 16) {hw : Nat} (hlt : lr < rr) (h2 : σ.1 25 lr = nI hw) (hq : hw = 2) {ρ : pST} (hg : kX8_toLook (pm_ui (σ.1) 0 38 (nI (lr + 1)), σ.2) [.inr (.inr 0), .inl (nI w), .inl (nI lr)] = some (ρ, none)) : kX8_step σ [.inr (.inr 0), .inl (nI w)] = some ((ρ, none)) := by
  have key : ∃ x, kX8_step σ [.inr (.inr 0), .inl (nI w)] = some x ∧ x = (ρ, none) := by
    refine pR_met (post := fun x => x = (ρ, none)) rfl (Nat.le_of_ble_eq_true rfl) ?_
    show pR _ _ _ _ _ _ _ _ 0 [(0, .inr (.inr 0)), (1, .inl (nI w))] [] σ
    refine pr_aload_n tX8_step_0 0 rfl ?_
    refine pr_geta (j := 28) tX8_step_1 rfl rfl rfl rfl ?_
    refine pr_iload_n tX8_step_4 1 rfl ?_
    refine pr_ial tX8_step_5 w rfl rfl (by omega) (by decide) ?_
    refine pR_topi (y := (nI 0)) (h0) ?_
    refine pr_iconst (v := nI 1) tX8_step_6 rfl ?_
    refine pr_ic_ne (pc' := 18) tX8_step_7 rfl (fun hc7 => ?_) (fun hc7 => ?_)
    · skip
      refine pr_aload_n tX8_step_18 0 rfl ?_
      refine pr_geta (j := 28) tX8_step_19 rfl rfl rfl rfl ?_
      refine pr_iload_n tX8_step_22 1 rfl ?_
      refine pr_ial tX8_step_23 w rfl rfl (by omega) (by decide) ?_
      refine pR_topi (y := (nI 0)) (h0) ?_
      refine pr_iconst (v := nI 2) tX8_step_24 rfl ?_
      refine pr_ic_ne (pc' := 36) tX8_step_25 rfl (fun hc25 => ?_) (fun hc25 => ?_)
      · skip
        refine pr_aload_n tX8_step_36 0 rfl ?_
        refine pr_get0 tX8_step_37 rfl rfl rfl ?_
        refine pR_topi (y := (nI lr)) (by simp [pm_ui, pm_uj, upd, vp_updL, hlr]) ?_
        refine pr_aload_n tX8_step_40 0 rfl ?_
        refine pr_get0 tX8_step_41 rfl rfl rfl ?_
        refine pR_topi (y := (nI rr)) (by simp [pm_ui, pm_uj, upd, vp_updL, hrr]) ?_
        refine pr_ic_ge (pc' := 81) tX8_step_44 rfl (fun hc44 => ?_) (fun hc44 => ?_)
        · skip
          exact absurd ((nI_leI (by omega) (by omega)).mp hc44) (by omega)
        · skip
          have hc44 : ¬ rr ≤ lr := fun z9 => hc44 ((nI_leI (by omega) (by omega)).mpr z9)
          refine pr_aload_n tX8_step_47 0 rfl ?_
          refine pr_get0 tX8_step_48 rfl rfl rfl ?_
          refine pR_topi (y := (nI lr)) (by simp [pm_ui, pm_uj, upd, vp_updL, hlr]) ?_
          refine pr_istore_n (L' := [(2, .inl (nI lr)), (0, .inr (.inr 0)), (1, .inl (nI w))]) tX8_step_51 (by decide) rfl ?_
          refine pr_aload_n tX8_step_52 1 rfl ?_
          refine pr_dup tX8_step_53 rfl ?_
          refine pr_get0 tX8_step_54 rfl rfl rfl ?_
          refine pR_topi (y := (nI lr)) (by simp [pm_ui, pm_uj, upd, vp_updL, hlr]) ?_
          refine pr_iconst (v := nI 1) tX8_step_57 rfl ?_
          refine pr_iadd (v := (nI (lr + 1))) tX8_step_58 (nI_add _ _) ?_
          refine pr_put0 tX8_step_59 rfl rfl rfl ?_
          obtain ⟨σ1, eσ1⟩ : ∃ z : pST, z = (pm_ui σ.1 0 38 (nI (lr + 1)), σ.2) := ⟨_, rfl⟩
          rw [← eσ1]
          refine pr_aload_n tX8_step_62 1 rfl ?_
          refine pr_geta (j := 25) tX8_step_63 rfl rfl rfl rfl ?_
          refine pr_iload_n tX8_step_66 0 rfl ?_
          refine pr_ial tX8_step_67 lr rfl rfl (by omega) (by decide) ?_
          refine pR_topi (y := (nI hw)) (by simp [eσ1, pm_ui, pm_uj, upd, vp_updL, h2]) ?_
          refine pr_iconst (v := nI 2) tX8_step_68 rfl ?_
          refine pr_ic_ne (pc' := 78) tX8_step_69 rfl (fun hc69 => ?_) (fun hc69 => ?_)
          · skip
            exact absurd ((nI_eq (by omega) (by omega)).mpr hq) hc69
          · skip
            skip
            refine pr_aload_n tX8_step_72 1 rfl ?_
            refine pr_iload_n tX8_step_73 2 rfl ?_
            refine pr_iload_n tX8_step_74 0 rfl ?_
            refine pr_callV tX8_step_75 rfl ⟨Nat.le_of_ble_eq_true rfl, Nat.le_of_ble_eq_true rfl, rfl⟩ (by rw [eσ1]; exact hg) ?_
            refine pR_eq (st' := []) rfl rfl ?_
            refine pr_goto (pc' := 122) tX8_step_78 rfl ?_
            refine pr_ret tX8_step_122 rfl ?_
            rfl
      · skip
        exact absurd (by decide) hc25
    · skip
      exact absurd (by decide) hc7
  obtain ⟨x, h1, h2⟩ := key
  rw [h1, h2]

set_option maxRecDepth 100000 in
theorem ev_X8_take_l (σ : pST) {w lr rr n : Nat} (h4 : w < 4) (h0 : σ.1 28 w = nI 0) (hlr : σ.1 0 38 = nI lr) (hl1 : lr ≤ 16) (hrr : σ.1 0 37 = nI rr) (hr1 : rr ≤ 16) (hn : σ.1 0 1 = nI n) (hn1 : n ≤ 16) {hw : Nat} (hlt : lr < rr) (h2 : σ.1 25 lr = nI hw) (h21 : hw ≤ 3) (hq : ¬ hw = 2) : kX8_step σ [.inr (.inr 0), .inl (nI w)] = some (((pm_ui (σ.1) 0 38 (nI (lr + 1)), σ.2), none)) := by
  have key : ∃ x, kX8_step σ [.inr (.inr 0), .inl (nI w)] = some x ∧ x = ((pm_ui (σ.1) 0 38 (nI (lr + 1)), σ.2), none) := by
    refine pR_met (post := fun x => x = ((pm_ui (σ.1) 0 38 (nI (lr + 1)), σ.2), none)) rfl (Nat.le_of_ble_eq_true rfl) ?_
    show pR _ _ _ _ _ _ _ _ 0 [(0, .inr (.inr 0)), (1, .inl (nI w))] [] σ
    refine pr_aload_n tX8_step_0 0 rfl ?_
    refine pr_geta (j := 28) tX8_step_1 rfl rfl rfl rfl ?_
    refine pr_iload_n tX8_step_4 1 rfl ?_
    refine pr_ial tX8_step_5 w rfl rfl (by omega) (by decide) ?_
    refine pR_topi (y := (nI 0)) (h0) ?_
    refine pr_iconst (v := nI 1) tX8_step_6 rfl ?_
    refine pr_ic_ne (pc' := 18) tX8_step_7 rfl (fun hc7 => ?_) (fun hc7 => ?_)
    · skip
      refine pr_aload_n tX8_step_18 0 rfl ?_
      refine pr_geta (j := 28) tX8_step_19 rfl rfl rfl rfl ?_
      refine pr_iload_n tX8_step_22 1 rfl ?_
      refine pr_ial tX8_step_23 w rfl rfl (by omega) (by decide) ?_
      refine pR_topi (y := (nI 0)) (h0) ?_
      refine pr_iconst (v := nI 2) tX8_step_24 rfl ?_
      refine pr_ic_ne (pc' := 36) tX8_step_25 rfl (fun hc25 => ?_) (fun hc25 => ?_)
      · skip
        refine pr_aload_n tX8_step_36 0 rfl ?_
        refine pr_get0 tX8_step_37 rfl rfl rfl ?_
        refine pR_topi (y := (nI lr)) (by simp [pm_ui, pm_uj, upd, vp_updL, hlr]) ?_
        refine pr_aload_n tX8_step_40 0 rfl ?_
        refine pr_get0 tX8_step_41 rfl rfl rfl ?_
        refine pR_topi (y := (nI rr)) (by simp [pm_ui, pm_uj, upd, vp_updL, hrr]) ?_
        refine pr_ic_ge (pc' := 81) tX8_step_44 rfl (fun hc44 => ?_) (fun hc44 => ?_)
        · skip
          exact absurd ((nI_leI (by omega) (by omega)).mp hc44) (by omega)
        · skip
          have hc44 : ¬ rr ≤ lr := fun z9 => hc44 ((nI_leI (by omega) (by omega)).mpr z9)
          refine pr_aload_n tX8_step_47 0 rfl ?_
          refine pr_get0 tX8_step_48 rfl rfl rfl ?_
          refine pR_topi (y := (nI lr)) (by simp [pm_ui, pm_uj, upd, vp_updL, hlr]) ?_
          refine pr_istore_n (L' := [(2, .inl (nI lr)), (0, .inr (.inr 0)), (1, .inl (nI w))]) tX8_step_51 (by decide) rfl ?_
          refine pr_aload_n tX8_step_52 1 rfl ?_
          refine pr_dup tX8_step_53 rfl ?_
          refine pr_get0 tX8_step_54 rfl rfl rfl ?_
          refine pR_topi (y := (nI lr)) (by simp [pm_ui, pm_uj, upd, vp_updL, hlr]) ?_
          refine pr_iconst (v := nI 1) tX8_step_57 rfl ?_
          refine pr_iadd (v := (nI (lr + 1))) tX8_step_58 (nI_add _ _) ?_
          refine pr_put0 tX8_step_59 rfl rfl rfl ?_
          obtain ⟨σ1, eσ1⟩ : ∃ z : pST, z = (pm_ui σ.1 0 38 (nI (lr + 1)), σ.2) := ⟨_, rfl⟩
          rw [← eσ1]
          refine pr_aload_n tX8_step_62 1 rfl ?_
          refine pr_geta (j := 25) tX8_step_63 rfl rfl rfl rfl ?_
          refine pr_iload_n tX8_step_66 0 rfl ?_
          refine pr_ial tX8_step_67 lr rfl rfl (by omega) (by decide) ?_
          refine pR_topi (y := (nI hw)) (by simp [eσ1, pm_ui, pm_uj, upd, vp_updL, h2]) ?_
          refine pr_iconst (v := nI 2) tX8_step_68 rfl ?_
          refine pr_ic_ne (pc' := 78) tX8_step_69 rfl (fun hc69 => ?_) (fun hc69 => ?_)
          · skip
            skip
            refine pr_goto (pc' := 122) tX8_step_78 rfl ?_
            refine pr_ret tX8_step_122 rfl ?_
            rw [eσ1]
            try rfl
          · skip
            exact absurd ((nI_eq (by omega) (by omega)).mp (Decidable.not_not.mp hc69)) hq
      · skip
        exact absurd (by decide) hc25
    · skip
      exact absurd (by decide) hc7
  obtain ⟨x, h1, h2⟩ := key
  rw [h1, h2]

set_option maxRecDepth 100000 in
theorem ev_X8_take_rr (σ : pST) {w lr rr n : Nat} (h4 : w < 4) (h0 : σ.1 28 w = nI 0) (hlr : σ.1 0 38 = nI lr) (hl1 : lr ≤ 16) (hrr : σ.1 0 37 = nI rr) (hr1 : rr ≤ 16) (hn : σ.1 0 1 = nI n) (hn1 : n ≤ 16) {hw : Nat} (hlt : ¬ lr < rr) (hrn : rr < n) (h2 : σ.1 25 rr = nI hw) (hq : hw = 0) {ρ : pST} (hg : kX8_toRun (pm_ui (σ.1) 0 37 (nI (rr + 1)), σ.2) [.inr (.inr 0), .inl (nI w), .inl (nI rr)] = some (ρ, none)) : kX8_step σ [.inr (.inr 0), .inl (nI w)] = some ((ρ, none)) := by
  have key : ∃ x, kX8_step σ [.inr (.inr 0), .inl (nI w)] = some x ∧ x = (ρ, none) := by
    refine pR_met (post := fun x => x = (ρ, none)) rfl (Nat.le_of_ble_eq_true rfl) ?_
    show pR _ _ _ _ _ _ _ _ 0 [(0, .inr (.inr 0)), (1, .inl (nI w))] [] σ
    refine pr_aload_n tX8_step_0 0 rfl ?_
    refine pr_geta (j := 28) tX8_step_1 rfl rfl rfl rfl ?_
    refine pr_iload_n tX8_step_4 1 rfl ?_
    refine pr_ial tX8_step_5 w rfl rfl (by omega) (by decide) ?_
    refine pR_topi (y := (nI 0)) (h0) ?_
    refine pr_iconst (v := nI 1) tX8_step_6 rfl ?_
    refine pr_ic_ne (pc' := 18) tX8_step_7 rfl (fun hc7 => ?_) (fun hc7 => ?_)
    · skip
      refine pr_aload_n tX8_step_18 0 rfl ?_
      refine pr_geta (j := 28) tX8_step_19 rfl rfl rfl rfl ?_
      refine pr_iload_n tX8_step_22 1 rfl ?_
      refine pr_ial tX8_step_23 w rfl rfl (by omega) (by decide) ?_
      refine pR_topi (y := (nI 0)) (h0) ?_
      refine pr_iconst (v := nI 2) tX8_step_24 rfl ?_
      refine pr_ic_ne (pc' := 36) tX8_step_25 rfl (fun hc25 => ?_) (fun hc25 => ?_)
      · skip
        refine pr_aload_n tX8_step_36 0 rfl ?_
        refine pr_get0 tX8_step_37 rfl rfl rfl ?_
        refine pR_topi (y := (nI lr)) (by simp [pm_ui, pm_uj, upd, vp_updL, hlr]) ?_
        refine pr_aload_n tX8_step_40 0 rfl ?_
        refine pr_get0 tX8_step_41 rfl rfl rfl ?_
        refine pR_topi (y := (nI rr)) (by simp [pm_ui, pm_uj, upd, vp_updL, hrr]) ?_
        refine pr_ic_ge (pc' := 81) tX8_step_44 rfl (fun hc44 => ?_) (fun hc44 => ?_)
        · skip
          have hc44 : rr ≤ lr := (nI_leI (by omega) (by omega)).mp hc44
          refine pr_aload_n tX8_step_81 0 rfl ?_
          refine pr_get0 tX8_step_82 rfl rfl rfl ?_
          refine pR_topi (y := (nI rr)) (by simp [pm_ui, pm_uj, upd, vp_updL, hrr]) ?_
          refine pr_aload_n tX8_step_85 0 rfl ?_
          refine pr_get0 tX8_step_86 rfl rfl rfl ?_
          refine pR_topi (y := (nI n)) (by simp [pm_ui, pm_uj, upd, vp_updL, hn]) ?_
          refine pr_ic_ge (pc' := 122) tX8_step_89 rfl (fun hc89 => ?_) (fun hc89 => ?_)
          · skip
            exact absurd ((nI_leI (by omega) (by omega)).mp hc89) (by omega)
          · skip
            have hc89 : ¬ n ≤ rr := fun z9 => hc89 ((nI_leI (by omega) (by omega)).mpr z9)
            refine pr_aload_n tX8_step_92 0 rfl ?_
            refine pr_get0 tX8_step_93 rfl rfl rfl ?_
            refine pR_topi (y := (nI rr)) (by simp [pm_ui, pm_uj, upd, vp_updL, hrr]) ?_
            refine pr_istore_n (L' := [(2, .inl (nI rr)), (0, .inr (.inr 0)), (1, .inl (nI w))]) tX8_step_96 (by decide) rfl ?_
            refine pr_aload_n tX8_step_97 1 rfl ?_
            refine pr_dup tX8_step_98 rfl ?_
            refine pr_get0 tX8_step_99 rfl rfl rfl ?_
            refine pR_topi (y := (nI rr)) (by simp [pm_ui, pm_uj, upd, vp_updL, hrr]) ?_
            refine pr_iconst (v := nI 1) tX8_step_102 rfl ?_
            refine pr_iadd (v := (nI (rr + 1))) tX8_step_103 (nI_add _ _) ?_
            refine pr_put0 tX8_step_104 rfl rfl rfl ?_
            obtain ⟨σ1, eσ1⟩ : ∃ z : pST, z = (pm_ui σ.1 0 37 (nI (rr + 1)), σ.2) := ⟨_, rfl⟩
            rw [← eσ1]
            refine pr_aload_n tX8_step_107 1 rfl ?_
            refine pr_geta (j := 25) tX8_step_108 rfl rfl rfl rfl ?_
            refine pr_iload_n tX8_step_111 0 rfl ?_
            refine pr_ial tX8_step_112 rr rfl rfl (by omega) (by decide) ?_
            refine pR_topi (y := (nI hw)) (by simp [eσ1, pm_ui, pm_uj, upd, vp_updL, h2]) ?_
            refine pr_if_ne (pc' := 122) tX8_step_113 rfl (fun hc113 => ?_) (fun hc113 => ?_)
            · skip
              exact absurd (by rw [hq, nI_0]) hc113
            · skip
              skip
              refine pr_aload_n tX8_step_116 1 rfl ?_
              refine pr_iload_n tX8_step_117 2 rfl ?_
              refine pr_iload_n tX8_step_118 0 rfl ?_
              refine pr_callV tX8_step_119 rfl ⟨Nat.le_of_ble_eq_true rfl, Nat.le_of_ble_eq_true rfl, rfl⟩ (by rw [eσ1]; exact hg) ?_
              refine pR_eq (st' := []) rfl rfl ?_
              refine pr_ret tX8_step_122 rfl ?_
              rfl
        · skip
          exact absurd ((nI_leI (by omega) (by omega)).mpr (by omega)) hc44
      · skip
        exact absurd (by decide) hc25
    · skip
      exact absurd (by decide) hc7
  obtain ⟨x, h1, h2⟩ := key
  rw [h1, h2]

set_option maxRecDepth 100000 in
theorem ev_X8_take_r (σ : pST) {w lr rr n : Nat} (h4 : w < 4) (h0 : σ.1 28 w = nI 0) (hlr : σ.1 0 38 = nI lr) (hl1 : lr ≤ 16) (hrr : σ.1 0 37 = nI rr) (hr1 : rr ≤ 16) (hn : σ.1 0 1 = nI n) (hn1 : n ≤ 16) {hw : Nat} (hlt : ¬ lr < rr) (hrn : rr < n) (h2 : σ.1 25 rr = nI hw) (h21 : hw ≤ 3) (hq : ¬ hw = 0) : kX8_step σ [.inr (.inr 0), .inl (nI w)] = some (((pm_ui (σ.1) 0 37 (nI (rr + 1)), σ.2), none)) := by
  have key : ∃ x, kX8_step σ [.inr (.inr 0), .inl (nI w)] = some x ∧ x = ((pm_ui (σ.1) 0 37 (nI (rr + 1)), σ.2), none) := by
    refine pR_met (post := fun x => x = ((pm_ui (σ.1) 0 37 (nI (rr + 1)), σ.2), none)) rfl (Nat.le_of_ble_eq_true rfl) ?_
    show pR _ _ _ _ _ _ _ _ 0 [(0, .inr (.inr 0)), (1, .inl (nI w))] [] σ
    refine pr_aload_n tX8_step_0 0 rfl ?_
    refine pr_geta (j := 28) tX8_step_1 rfl rfl rfl rfl ?_
    refine pr_iload_n tX8_step_4 1 rfl ?_
    refine pr_ial tX8_step_5 w rfl rfl (by omega) (by decide) ?_
    refine pR_topi (y := (nI 0)) (h0) ?_
    refine pr_iconst (v := nI 1) tX8_step_6 rfl ?_
    refine pr_ic_ne (pc' := 18) tX8_step_7 rfl (fun hc7 => ?_) (fun hc7 => ?_)
    · skip
      refine pr_aload_n tX8_step_18 0 rfl ?_
      refine pr_geta (j := 28) tX8_step_19 rfl rfl rfl rfl ?_
      refine pr_iload_n tX8_step_22 1 rfl ?_
      refine pr_ial tX8_step_23 w rfl rfl (by omega) (by decide) ?_
      refine pR_topi (y := (nI 0)) (h0) ?_
      refine pr_iconst (v := nI 2) tX8_step_24 rfl ?_
      refine pr_ic_ne (pc' := 36) tX8_step_25 rfl (fun hc25 => ?_) (fun hc25 => ?_)
      · skip
        refine pr_aload_n tX8_step_36 0 rfl ?_
        refine pr_get0 tX8_step_37 rfl rfl rfl ?_
        refine pR_topi (y := (nI lr)) (by simp [pm_ui, pm_uj, upd, vp_updL, hlr]) ?_
        refine pr_aload_n tX8_step_40 0 rfl ?_
        refine pr_get0 tX8_step_41 rfl rfl rfl ?_
        refine pR_topi (y := (nI rr)) (by simp [pm_ui, pm_uj, upd, vp_updL, hrr]) ?_
        refine pr_ic_ge (pc' := 81) tX8_step_44 rfl (fun hc44 => ?_) (fun hc44 => ?_)
        · skip
          have hc44 : rr ≤ lr := (nI_leI (by omega) (by omega)).mp hc44
          refine pr_aload_n tX8_step_81 0 rfl ?_
          refine pr_get0 tX8_step_82 rfl rfl rfl ?_
          refine pR_topi (y := (nI rr)) (by simp [pm_ui, pm_uj, upd, vp_updL, hrr]) ?_
          refine pr_aload_n tX8_step_85 0 rfl ?_
          refine pr_get0 tX8_step_86 rfl rfl rfl ?_
          refine pR_topi (y := (nI n)) (by simp [pm_ui, pm_uj, upd, vp_updL, hn]) ?_
          refine pr_ic_ge (pc' := 122) tX8_step_89 rfl (fun hc89 => ?_) (fun hc89 => ?_)
          · skip
            exact absurd ((nI_leI (by omega) (by omega)).mp hc89) (by omega)
          · skip
            have hc89 : ¬ n ≤ rr := fun z9 => hc89 ((nI_leI (by omega) (by omega)).mpr z9)
            refine pr_aload_n tX8_step_92 0 rfl ?_
            refine pr_get0 tX8_step_93 rfl rfl rfl ?_
            refine pR_topi (y := (nI rr)) (by simp [pm_ui, pm_uj, upd, vp_updL, hrr]) ?_
            refine pr_istore_n (L' := [(2, .inl (nI rr)), (0, .inr (.inr 0)), (1, .inl (nI w))]) tX8_step_96 (by decide) rfl ?_
            refine pr_aload_n tX8_step_97 1 rfl ?_
            refine pr_dup tX8_step_98 rfl ?_
            refine pr_get0 tX8_step_99 rfl rfl rfl ?_
            refine pR_topi (y := (nI rr)) (by simp [pm_ui, pm_uj, upd, vp_updL, hrr]) ?_
            refine pr_iconst (v := nI 1) tX8_step_102 rfl ?_
            refine pr_iadd (v := (nI (rr + 1))) tX8_step_103 (nI_add _ _) ?_
            refine pr_put0 tX8_step_104 rfl rfl rfl ?_
            obtain ⟨σ1, eσ1⟩ : ∃ z : pST, z = (pm_ui σ.1 0 37 (nI (rr + 1)), σ.2) := ⟨_, rfl⟩
            rw [← eσ1]
            refine pr_aload_n tX8_step_107 1 rfl ?_
            refine pr_geta (j := 25) tX8_step_108 rfl rfl rfl rfl ?_
            refine pr_iload_n tX8_step_111 0 rfl ?_
            refine pr_ial tX8_step_112 rr rfl rfl (by omega) (by decide) ?_
            refine pR_topi (y := (nI hw)) (by simp [eσ1, pm_ui, pm_uj, upd, vp_updL, h2]) ?_
            refine pr_if_ne (pc' := 122) tX8_step_113 rfl (fun hc113 => ?_) (fun hc113 => ?_)
            · skip
              skip
              refine pr_ret tX8_step_122 rfl ?_
              rw [eσ1]
              try rfl
            · skip
              exact absurd (nI_ne0 (by omega) (by omega)) hc113
        · skip
          exact absurd ((nI_leI (by omega) (by omega)).mpr (by omega)) hc44
      · skip
        exact absurd (by decide) hc25
    · skip
      exact absurd (by decide) hc7
  obtain ⟨x, h1, h2⟩ := key
  rw [h1, h2]

set_option maxRecDepth 100000 in
theorem ev_X8_take_i (σ : pST) {w lr rr n : Nat} (h4 : w < 4) (h0 : σ.1 28 w = nI 0) (hlr : σ.1 0 38 = nI lr) (hl1 : lr ≤ 16) (hrr : σ.1 0 37 = nI rr) (hr1 : rr ≤ 16) (hn : σ.1 0 1 = nI n) (hn1 : n ≤ 16) (hlt : ¬ lr < rr) (hrn : ¬ rr < n) : kX8_step σ [.inr (.inr 0), .inl (nI w)] = some ((σ, none)) := by
  have key : ∃ x, kX8_step σ [.inr (.inr 0), .inl (nI w)] = some x ∧ x = (σ, none) := by
    refine pR_met (post := fun x => x = (σ, none)) rfl (Nat.le_of_ble_eq_true rfl) ?_
    show pR _ _ _ _ _ _ _ _ 0 [(0, .inr (.inr 0)), (1, .inl (nI w))] [] σ
    refine pr_aload_n tX8_step_0 0 rfl ?_
    refine pr_geta (j := 28) tX8_step_1 rfl rfl rfl rfl ?_
    refine pr_iload_n tX8_step_4 1 rfl ?_
    refine pr_ial tX8_step_5 w rfl rfl (by omega) (by decide) ?_
    refine pR_topi (y := (nI 0)) (h0) ?_
    refine pr_iconst (v := nI 1) tX8_step_6 rfl ?_
    refine pr_ic_ne (pc' := 18) tX8_step_7 rfl (fun hc7 => ?_) (fun hc7 => ?_)
    · skip
      refine pr_aload_n tX8_step_18 0 rfl ?_
      refine pr_geta (j := 28) tX8_step_19 rfl rfl rfl rfl ?_
      refine pr_iload_n tX8_step_22 1 rfl ?_
      refine pr_ial tX8_step_23 w rfl rfl (by omega) (by decide) ?_
      refine pR_topi (y := (nI 0)) (h0) ?_
      refine pr_iconst (v := nI 2) tX8_step_24 rfl ?_
      refine pr_ic_ne (pc' := 36) tX8_step_25 rfl (fun hc25 => ?_) (fun hc25 => ?_)
      · skip
        refine pr_aload_n tX8_step_36 0 rfl ?_
        refine pr_get0 tX8_step_37 rfl rfl rfl ?_
        refine pR_topi (y := (nI lr)) (by simp [pm_ui, pm_uj, upd, vp_updL, hlr]) ?_
        refine pr_aload_n tX8_step_40 0 rfl ?_
        refine pr_get0 tX8_step_41 rfl rfl rfl ?_
        refine pR_topi (y := (nI rr)) (by simp [pm_ui, pm_uj, upd, vp_updL, hrr]) ?_
        refine pr_ic_ge (pc' := 81) tX8_step_44 rfl (fun hc44 => ?_) (fun hc44 => ?_)
        · skip
          have hc44 : rr ≤ lr := (nI_leI (by omega) (by omega)).mp hc44
          refine pr_aload_n tX8_step_81 0 rfl ?_
          refine pr_get0 tX8_step_82 rfl rfl rfl ?_
          refine pR_topi (y := (nI rr)) (by simp [pm_ui, pm_uj, upd, vp_updL, hrr]) ?_
          refine pr_aload_n tX8_step_85 0 rfl ?_
          refine pr_get0 tX8_step_86 rfl rfl rfl ?_
          refine pR_topi (y := (nI n)) (by simp [pm_ui, pm_uj, upd, vp_updL, hn]) ?_
          refine pr_ic_ge (pc' := 122) tX8_step_89 rfl (fun hc89 => ?_) (fun hc89 => ?_)
          · skip
            have hc89 : n ≤ rr := (nI_leI (by omega) (by omega)).mp hc89
            refine pr_ret tX8_step_122 rfl ?_
            rfl
          · skip
            exact absurd ((nI_leI (by omega) (by omega)).mpr (by omega)) hc89
        · skip
          exact absurd ((nI_leI (by omega) (by omega)).mpr (by omega)) hc44
      · skip
        exact absurd (by decide) hc25
    · skip
      exact absurd (by decide) hc7
  obtain ⟨x, h1, h2⟩ := key
  rw [h1, h2]

set_option maxRecDepth 100000 in
theorem ev_X8_step_1 (σ : pST) {w : Nat} {ρ : pST} (h4 : w < 4) (ht : σ.1 28 w = nI 1) (hg : kX8_runStep σ [.inr (.inr 0), .inl (nI w)] = some (ρ, none)) : kX8_step σ [.inr (.inr 0), .inl (nI w)] = some ((ρ, none)) := by
  have key : ∃ x, kX8_step σ [.inr (.inr 0), .inl (nI w)] = some x ∧ x = (ρ, none) := by
    refine pR_met (post := fun x => x = (ρ, none)) rfl (Nat.le_of_ble_eq_true rfl) ?_
    show pR _ _ _ _ _ _ _ _ 0 [(0, .inr (.inr 0)), (1, .inl (nI w))] [] σ
    refine pr_aload_n tX8_step_0 0 rfl ?_
    refine pr_geta (j := 28) tX8_step_1 rfl rfl rfl rfl ?_
    refine pr_iload_n tX8_step_4 1 rfl ?_
    refine pr_ial tX8_step_5 w rfl rfl (by omega) (by decide) ?_
    refine pR_topi (y := (nI 1)) (ht) ?_
    refine pr_iconst (v := nI 1) tX8_step_6 rfl ?_
    refine pr_ic_ne (pc' := 18) tX8_step_7 rfl (fun hc7 => ?_) (fun hc7 => ?_)
    · skip
      exact absurd hc7 (by decide)
    · skip
      refine pr_aload_n tX8_step_10 0 rfl ?_
      refine pr_iload_n tX8_step_11 1 rfl ?_
      refine pr_callV tX8_step_12 rfl ⟨Nat.le_of_ble_eq_true rfl, Nat.le_of_ble_eq_true rfl, rfl⟩ (hg) ?_
      refine pR_eq (st' := []) rfl rfl ?_
      refine pr_goto (pc' := 122) tX8_step_15 rfl ?_
      refine pr_ret tX8_step_122 rfl ?_
      rfl
  obtain ⟨x, h1, h2⟩ := key
  rw [h1, h2]

set_option maxRecDepth 100000 in
theorem ev_X8_step_2 (σ : pST) {w : Nat} {ρ : pST} (h4 : w < 4) (ht : σ.1 28 w = nI 2) (hg : kX8_lookStep σ [.inr (.inr 0), .inl (nI w)] = some (ρ, none)) : kX8_step σ [.inr (.inr 0), .inl (nI w)] = some ((ρ, none)) := by
  have key : ∃ x, kX8_step σ [.inr (.inr 0), .inl (nI w)] = some x ∧ x = (ρ, none) := by
    refine pR_met (post := fun x => x = (ρ, none)) rfl (Nat.le_of_ble_eq_true rfl) ?_
    show pR _ _ _ _ _ _ _ _ 0 [(0, .inr (.inr 0)), (1, .inl (nI w))] [] σ
    refine pr_aload_n tX8_step_0 0 rfl ?_
    refine pr_geta (j := 28) tX8_step_1 rfl rfl rfl rfl ?_
    refine pr_iload_n tX8_step_4 1 rfl ?_
    refine pr_ial tX8_step_5 w rfl rfl (by omega) (by decide) ?_
    refine pR_topi (y := (nI 2)) (ht) ?_
    refine pr_iconst (v := nI 1) tX8_step_6 rfl ?_
    refine pr_ic_ne (pc' := 18) tX8_step_7 rfl (fun hc7 => ?_) (fun hc7 => ?_)
    · skip
      refine pr_aload_n tX8_step_18 0 rfl ?_
      refine pr_geta (j := 28) tX8_step_19 rfl rfl rfl rfl ?_
      refine pr_iload_n tX8_step_22 1 rfl ?_
      refine pr_ial tX8_step_23 w rfl rfl (by omega) (by decide) ?_
      refine pR_topi (y := (nI 2)) (ht) ?_
      refine pr_iconst (v := nI 2) tX8_step_24 rfl ?_
      refine pr_ic_ne (pc' := 36) tX8_step_25 rfl (fun hc25 => ?_) (fun hc25 => ?_)
      · skip
        exact absurd hc25 (by decide)
      · skip
        refine pr_aload_n tX8_step_28 0 rfl ?_
        refine pr_iload_n tX8_step_29 1 rfl ?_
        refine pr_callV tX8_step_30 rfl ⟨Nat.le_of_ble_eq_true rfl, Nat.le_of_ble_eq_true rfl, rfl⟩ (hg) ?_
        refine pR_eq (st' := []) rfl rfl ?_
        refine pr_goto (pc' := 122) tX8_step_33 rfl ?_
        refine pr_ret tX8_step_122 rfl ?_
        rfl
    · skip
      exact absurd (by decide) hc7
  obtain ⟨x, h1, h2⟩ := key
  rw [h1, h2]

set_option maxRecDepth 100000 in
theorem ev_X8_runStep_o (σ : pST) {w c : Nat} (h4 : w < 4) (hc : c < 16) (h1 : σ.1 29 w = nI c) {ρ : pST} (ho : kX8_isOver σ [.inr (.inr 0), .inl (nI c)] = some (σ, some (.inl (nI 1)))) (he : kX8_ends (pm_ui (σ.1) 28 w (nI 0), σ.2) [.inr (.inr 0), .inl (nI w), .inl (nI c)] = some (ρ, none)) : kX8_runStep σ [.inr (.inr 0), .inl (nI w)] = some ((ρ, none)) := by
  have key : ∃ x, kX8_runStep σ [.inr (.inr 0), .inl (nI w)] = some x ∧ x = (ρ, none) := by
    refine pR_met (post := fun x => x = (ρ, none)) rfl (Nat.le_of_ble_eq_true rfl) ?_
    show pR _ _ _ _ _ _ _ _ 0 [(0, .inr (.inr 0)), (1, .inl (nI w))] [] σ
    refine pr_aload_n tX8_runStep_0 0 rfl ?_
    refine pr_geta (j := 29) tX8_runStep_1 rfl rfl rfl rfl ?_
    refine pr_iload_n tX8_runStep_4 1 rfl ?_
    refine pr_ial tX8_runStep_5 w rfl rfl (by omega) (by decide) ?_
    refine pR_topi (y := (nI c)) (h1) ?_
    refine pr_istore_n (L' := [(2, .inl (nI c)), (0, .inr (.inr 0)), (1, .inl (nI w))]) tX8_runStep_6 (by decide) rfl ?_
    refine pr_aload_n tX8_runStep_7 1 rfl ?_
    refine pr_iload_n tX8_runStep_8 0 rfl ?_
    refine pr_callV tX8_runStep_9 rfl ⟨Nat.le_of_ble_eq_true rfl, Nat.le_of_ble_eq_true rfl, rfl⟩ (ho) ?_
    refine pR_eq (st' := [.inl (nI 1)]) rfl rfl ?_
    refine pr_if_ne (pc' := 64) tX8_runStep_12 rfl (fun hc12 => ?_) (fun hc12 => ?_)
    · skip
      refine pr_aload_n tX8_runStep_64 1 rfl ?_
      refine pr_iload_n tX8_runStep_65 0 rfl ?_
      refine pr_callV tX8_runStep_66 rfl ⟨Nat.le_of_ble_eq_true rfl, Nat.le_of_ble_eq_true rfl, rfl⟩ (ho) ?_
      refine pR_eq (st' := [.inl (nI 1)]) rfl rfl ?_
      refine pr_if_eq (pc' := 85) tX8_runStep_69 rfl (fun hc69 => ?_) (fun hc69 => ?_)
      · skip
        exact absurd hc69 (by decide)
      · skip
        refine pr_aload_n tX8_runStep_72 1 rfl ?_
        refine pr_geta (j := 28) tX8_runStep_73 rfl rfl rfl rfl ?_
        refine pr_iload_n tX8_runStep_76 2 rfl ?_
        refine pr_iconst (v := nI 0) tX8_runStep_77 rfl ?_
        refine pr_ias tX8_runStep_78 w rfl rfl (by omega) (by decide) ?_
        obtain ⟨σ1, eσ1⟩ : ∃ z : pST, z = (pm_ui σ.1 28 w (nI 0), σ.2) := ⟨_, rfl⟩
        rw [← eσ1]
        refine pr_aload_n tX8_runStep_79 1 rfl ?_
        refine pr_iload_n tX8_runStep_80 2 rfl ?_
        refine pr_iload_n tX8_runStep_81 0 rfl ?_
        refine pr_callV tX8_runStep_82 rfl ⟨Nat.le_of_ble_eq_true rfl, Nat.le_of_ble_eq_true rfl, rfl⟩ (by rw [eσ1]; exact he) ?_
        refine pR_eq (st' := []) rfl rfl ?_
        refine pr_ret tX8_runStep_85 rfl ?_
        rfl
    · skip
      exact absurd (by decide) hc12
  obtain ⟨x, h1, h2⟩ := key
  rw [h1, h2]

set_option maxRecDepth 100000 in
theorem ev_X8_runStep_u (σ : pST) {w c : Nat} (h4 : w < 4) (hc : c < 16) (h1 : σ.1 29 w = nI c) {r : Int32} {σa : pST} (ho : kX8_isOver σ [.inr (.inr 0), .inl (nI c)] = some (σ, some (.inl (nI 0)))) (hd : kX8_doAct σ [.inr (.inr 0), .inl (nI c)] = some (σa, some (.inl r))) {gu : Nat} {ρ : pST} (hr : ¬ r = -1) (hg : σa.1 0 44 = nI gu) (hn : kX8_conflict0 (pm_ui (pm_ui (pm_ui (pm_ui (σa.1) 25 c (nI 3)) 27 c r) 28 w (nI 0)) 0 44 (nI (gu + 1)), σa.2) [.inr (.inr 0), .inl (nI c), .inl r] = some (ρ, none)) : kX8_runStep σ [.inr (.inr 0), .inl (nI w)] = some ((ρ, none)) := by
  have key : ∃ x, kX8_runStep σ [.inr (.inr 0), .inl (nI w)] = some x ∧ x = (ρ, none) := by
    refine pR_met (post := fun x => x = (ρ, none)) rfl (Nat.le_of_ble_eq_true rfl) ?_
    show pR _ _ _ _ _ _ _ _ 0 [(0, .inr (.inr 0)), (1, .inl (nI w))] [] σ
    refine pr_aload_n tX8_runStep_0 0 rfl ?_
    refine pr_geta (j := 29) tX8_runStep_1 rfl rfl rfl rfl ?_
    refine pr_iload_n tX8_runStep_4 1 rfl ?_
    refine pr_ial tX8_runStep_5 w rfl rfl (by omega) (by decide) ?_
    refine pR_topi (y := (nI c)) (h1) ?_
    refine pr_istore_n (L' := [(2, .inl (nI c)), (0, .inr (.inr 0)), (1, .inl (nI w))]) tX8_runStep_6 (by decide) rfl ?_
    refine pr_aload_n tX8_runStep_7 1 rfl ?_
    refine pr_iload_n tX8_runStep_8 0 rfl ?_
    refine pr_callV tX8_runStep_9 rfl ⟨Nat.le_of_ble_eq_true rfl, Nat.le_of_ble_eq_true rfl, rfl⟩ (ho) ?_
    refine pR_eq (st' := [.inl (nI 0)]) rfl rfl ?_
    refine pr_if_ne (pc' := 64) tX8_runStep_12 rfl (fun hc12 => ?_) (fun hc12 => ?_)
    · skip
      exact absurd hc12 (by decide)
    · skip
      refine pr_aload_n tX8_runStep_15 1 rfl ?_
      refine pr_iload_n tX8_runStep_16 0 rfl ?_
      refine pr_callV tX8_runStep_17 rfl ⟨Nat.le_of_ble_eq_true rfl, Nat.le_of_ble_eq_true rfl, rfl⟩ (hd) ?_
      refine pR_eq (st' := [.inl r]) rfl rfl ?_
      refine pr_istore_n (L' := [(3, .inl r), (2, .inl (nI c)), (0, .inr (.inr 0)), (1, .inl (nI w))]) tX8_runStep_20 (by decide) rfl ?_
      refine pr_iload_n tX8_runStep_21 0 rfl ?_
      refine pr_iconst (v := -1) tX8_runStep_22 rfl ?_
      refine pr_ic_eq (pc' := 64) tX8_runStep_23 rfl (fun hc23 => ?_) (fun hc23 => ?_)
      · skip
        exact absurd hc23 hr
      · skip
        skip
        refine pr_aload_n tX8_runStep_26 2 rfl ?_
        refine pr_geta (j := 25) tX8_runStep_27 rfl rfl rfl rfl ?_
        refine pr_iload_n tX8_runStep_30 1 rfl ?_
        refine pr_iconst (v := nI 3) tX8_runStep_31 rfl ?_
        refine pr_ias tX8_runStep_32 c rfl rfl (by omega) (by decide) ?_
        obtain ⟨σ1, eσ1⟩ : ∃ z : pST, z = (pm_ui σa.1 25 c (nI 3), σa.2) := ⟨_, rfl⟩
        rw [← eσ1]
        refine pr_aload_n tX8_runStep_33 2 rfl ?_
        refine pr_geta (j := 27) tX8_runStep_34 rfl rfl rfl rfl ?_
        refine pr_iload_n tX8_runStep_37 1 rfl ?_
        refine pr_iload_n tX8_runStep_38 0 rfl ?_
        refine pr_ias tX8_runStep_39 c rfl rfl (by omega) (by decide) ?_
        obtain ⟨σ2, eσ2⟩ : ∃ z : pST, z = (pm_ui σ1.1 27 c r, σ1.2) := ⟨_, rfl⟩
        rw [← eσ2]
        refine pr_aload_n tX8_runStep_40 2 rfl ?_
        refine pr_geta (j := 28) tX8_runStep_41 rfl rfl rfl rfl ?_
        refine pr_iload_n tX8_runStep_44 3 rfl ?_
        refine pr_iconst (v := nI 0) tX8_runStep_45 rfl ?_
        refine pr_ias tX8_runStep_46 w rfl rfl (by omega) (by decide) ?_
        obtain ⟨σ3, eσ3⟩ : ∃ z : pST, z = (pm_ui σ2.1 28 w (nI 0), σ2.2) := ⟨_, rfl⟩
        rw [← eσ3]
        refine pr_aload_n tX8_runStep_47 2 rfl ?_
        refine pr_dup tX8_runStep_48 rfl ?_
        refine pr_get0 tX8_runStep_49 rfl rfl rfl ?_
        refine pR_topi (y := (nI gu)) (by simp [eσ1, eσ2, eσ3, pm_ui, pm_uj, upd, vp_updL, hg]) ?_
        refine pr_iconst (v := nI 1) tX8_runStep_52 rfl ?_
        refine pr_iadd (v := (nI (gu + 1))) tX8_runStep_53 (nI_add _ _) ?_
        refine pr_put0 tX8_runStep_54 rfl rfl rfl ?_
        obtain ⟨σ4, eσ4⟩ : ∃ z : pST, z = (pm_ui σ3.1 0 44 (nI (gu + 1)), σ3.2) := ⟨_, rfl⟩
        rw [← eσ4]
        refine pr_aload_n tX8_runStep_57 2 rfl ?_
        refine pr_iload_n tX8_runStep_58 1 rfl ?_
        refine pr_iload_n tX8_runStep_59 0 rfl ?_
        refine pr_callV tX8_runStep_60 rfl ⟨Nat.le_of_ble_eq_true rfl, Nat.le_of_ble_eq_true rfl, rfl⟩ (by rw [eσ4, eσ3, eσ2, eσ1]; exact hn) ?_
        refine pR_eq (st' := []) rfl rfl ?_
        refine pr_ret tX8_runStep_63 rfl ?_
        rfl
  obtain ⟨x, h1, h2⟩ := key
  rw [h1, h2]

set_option maxRecDepth 100000 in
theorem ev_X8_runStep_n (σ : pST) {w c : Nat} (h4 : w < 4) (hc : c < 16) (h1 : σ.1 29 w = nI c) {r : Int32} {σa : pST} (ho : kX8_isOver σ [.inr (.inr 0), .inl (nI c)] = some (σ, some (.inl (nI 0)))) (hd : kX8_doAct σ [.inr (.inr 0), .inl (nI c)] = some (σa, some (.inl r))) (hr : r = -1) (ho2 : kX8_isOver σa [.inr (.inr 0), .inl (nI c)] = some (σa, some (.inl (nI 0)))) : kX8_runStep σ [.inr (.inr 0), .inl (nI w)] = some ((σa, none)) := by
  have key : ∃ x, kX8_runStep σ [.inr (.inr 0), .inl (nI w)] = some x ∧ x = (σa, none) := by
    refine pR_met (post := fun x => x = (σa, none)) rfl (Nat.le_of_ble_eq_true rfl) ?_
    show pR _ _ _ _ _ _ _ _ 0 [(0, .inr (.inr 0)), (1, .inl (nI w))] [] σ
    refine pr_aload_n tX8_runStep_0 0 rfl ?_
    refine pr_geta (j := 29) tX8_runStep_1 rfl rfl rfl rfl ?_
    refine pr_iload_n tX8_runStep_4 1 rfl ?_
    refine pr_ial tX8_runStep_5 w rfl rfl (by omega) (by decide) ?_
    refine pR_topi (y := (nI c)) (h1) ?_
    refine pr_istore_n (L' := [(2, .inl (nI c)), (0, .inr (.inr 0)), (1, .inl (nI w))]) tX8_runStep_6 (by decide) rfl ?_
    refine pr_aload_n tX8_runStep_7 1 rfl ?_
    refine pr_iload_n tX8_runStep_8 0 rfl ?_
    refine pr_callV tX8_runStep_9 rfl ⟨Nat.le_of_ble_eq_true rfl, Nat.le_of_ble_eq_true rfl, rfl⟩ (ho) ?_
    refine pR_eq (st' := [.inl (nI 0)]) rfl rfl ?_
    refine pr_if_ne (pc' := 64) tX8_runStep_12 rfl (fun hc12 => ?_) (fun hc12 => ?_)
    · skip
      exact absurd hc12 (by decide)
    · skip
      refine pr_aload_n tX8_runStep_15 1 rfl ?_
      refine pr_iload_n tX8_runStep_16 0 rfl ?_
      refine pr_callV tX8_runStep_17 rfl ⟨Nat.le_of_ble_eq_true rfl, Nat.le_of_ble_eq_true rfl, rfl⟩ (hd) ?_
      refine pR_eq (st' := [.inl r]) rfl rfl ?_
      refine pr_istore_n (L' := [(3, .inl r), (2, .inl (nI c)), (0, .inr (.inr 0)), (1, .inl (nI w))]) tX8_runStep_20 (by decide) rfl ?_
      refine pr_iload_n tX8_runStep_21 0 rfl ?_
      refine pr_iconst (v := -1) tX8_runStep_22 rfl ?_
      refine pr_ic_eq (pc' := 64) tX8_runStep_23 rfl (fun hc23 => ?_) (fun hc23 => ?_)
      · skip
        skip
        refine pr_aload_n tX8_runStep_64 2 rfl ?_
        refine pr_iload_n tX8_runStep_65 1 rfl ?_
        refine pr_callV tX8_runStep_66 rfl ⟨Nat.le_of_ble_eq_true rfl, Nat.le_of_ble_eq_true rfl, rfl⟩ (ho2) ?_
        refine pR_eq (st' := [.inl (nI 0)]) rfl rfl ?_
        refine pr_if_eq (pc' := 85) tX8_runStep_69 rfl (fun hc69 => ?_) (fun hc69 => ?_)
        · skip
          refine pr_ret tX8_runStep_85 rfl ?_
          rfl
        · skip
          exact absurd (by decide) hc69
      · skip
        exact absurd hr hc23
  obtain ⟨x, h1, h2⟩ := key
  rw [h1, h2]

set_option maxRecDepth 100000 in
theorem ev_X8_runStep_e (σ : pST) {w c : Nat} (h4 : w < 4) (hc : c < 16) (h1 : σ.1 29 w = nI c) {r : Int32} {σa : pST} (ho : kX8_isOver σ [.inr (.inr 0), .inl (nI c)] = some (σ, some (.inl (nI 0)))) (hd : kX8_doAct σ [.inr (.inr 0), .inl (nI c)] = some (σa, some (.inl r))) {ρ : pST} (hr : r = -1) (ho2 : kX8_isOver σa [.inr (.inr 0), .inl (nI c)] = some (σa, some (.inl (nI 1)))) (he : kX8_ends (pm_ui (σa.1) 28 w (nI 0), σa.2) [.inr (.inr 0), .inl (nI w), .inl (nI c)] = some (ρ, none)) : kX8_runStep σ [.inr (.inr 0), .inl (nI w)] = some ((ρ, none)) := by
  have key : ∃ x, kX8_runStep σ [.inr (.inr 0), .inl (nI w)] = some x ∧ x = (ρ, none) := by
    refine pR_met (post := fun x => x = (ρ, none)) rfl (Nat.le_of_ble_eq_true rfl) ?_
    show pR _ _ _ _ _ _ _ _ 0 [(0, .inr (.inr 0)), (1, .inl (nI w))] [] σ
    refine pr_aload_n tX8_runStep_0 0 rfl ?_
    refine pr_geta (j := 29) tX8_runStep_1 rfl rfl rfl rfl ?_
    refine pr_iload_n tX8_runStep_4 1 rfl ?_
    refine pr_ial tX8_runStep_5 w rfl rfl (by omega) (by decide) ?_
    refine pR_topi (y := (nI c)) (h1) ?_
    refine pr_istore_n (L' := [(2, .inl (nI c)), (0, .inr (.inr 0)), (1, .inl (nI w))]) tX8_runStep_6 (by decide) rfl ?_
    refine pr_aload_n tX8_runStep_7 1 rfl ?_
    refine pr_iload_n tX8_runStep_8 0 rfl ?_
    refine pr_callV tX8_runStep_9 rfl ⟨Nat.le_of_ble_eq_true rfl, Nat.le_of_ble_eq_true rfl, rfl⟩ (ho) ?_
    refine pR_eq (st' := [.inl (nI 0)]) rfl rfl ?_
    refine pr_if_ne (pc' := 64) tX8_runStep_12 rfl (fun hc12 => ?_) (fun hc12 => ?_)
    · skip
      exact absurd hc12 (by decide)
    · skip
      refine pr_aload_n tX8_runStep_15 1 rfl ?_
      refine pr_iload_n tX8_runStep_16 0 rfl ?_
      refine pr_callV tX8_runStep_17 rfl ⟨Nat.le_of_ble_eq_true rfl, Nat.le_of_ble_eq_true rfl, rfl⟩ (hd) ?_
      refine pR_eq (st' := [.inl r]) rfl rfl ?_
      refine pr_istore_n (L' := [(3, .inl r), (2, .inl (nI c)), (0, .inr (.inr 0)), (1, .inl (nI w))]) tX8_runStep_20 (by decide) rfl ?_
      refine pr_iload_n tX8_runStep_21 0 rfl ?_
      refine pr_iconst (v := -1) tX8_runStep_22 rfl ?_
      refine pr_ic_eq (pc' := 64) tX8_runStep_23 rfl (fun hc23 => ?_) (fun hc23 => ?_)
      · skip
        skip
        refine pr_aload_n tX8_runStep_64 2 rfl ?_
        refine pr_iload_n tX8_runStep_65 1 rfl ?_
        refine pr_callV tX8_runStep_66 rfl ⟨Nat.le_of_ble_eq_true rfl, Nat.le_of_ble_eq_true rfl, rfl⟩ (ho2) ?_
        refine pR_eq (st' := [.inl (nI 1)]) rfl rfl ?_
        refine pr_if_eq (pc' := 85) tX8_runStep_69 rfl (fun hc69 => ?_) (fun hc69 => ?_)
        · skip
          exact absurd hc69 (by decide)
        · skip
          refine pr_aload_n tX8_runStep_72 2 rfl ?_
          refine pr_geta (j := 28) tX8_runStep_73 rfl rfl rfl rfl ?_
          refine pr_iload_n tX8_runStep_76 3 rfl ?_
          refine pr_iconst (v := nI 0) tX8_runStep_77 rfl ?_
          refine pr_ias tX8_runStep_78 w rfl rfl (by omega) (by decide) ?_
          obtain ⟨σ1, eσ1⟩ : ∃ z : pST, z = (pm_ui σa.1 28 w (nI 0), σa.2) := ⟨_, rfl⟩
          rw [← eσ1]
          refine pr_aload_n tX8_runStep_79 2 rfl ?_
          refine pr_iload_n tX8_runStep_80 3 rfl ?_
          refine pr_iload_n tX8_runStep_81 1 rfl ?_
          refine pr_callV tX8_runStep_82 rfl ⟨Nat.le_of_ble_eq_true rfl, Nat.le_of_ble_eq_true rfl, rfl⟩ (by rw [eσ1]; exact he) ?_
          refine pR_eq (st' := []) rfl rfl ?_
          refine pr_ret tX8_runStep_85 rfl ?_
          rfl
      · skip
        exact absurd hr hc23
  obtain ⟨x, h1, h2⟩ := key
  rw [h1, h2]

abbrev wrM (σ : pST) (c k : Nat) : Prop := ¬ σ.1 10 (32 * c + k) = 0 ∧ σ.1 9 c = 0
def epI (σ : pST) (c : Nat) (num : Int32) (m : Nat) : Nat → Nat → Int32 := fun x y => if x = 21 ∧ 32 * c ≤ y ∧ y < 32 * c + m then (if wrM σ c (y - 32 * c) then nI 1 else nI 0) else if x = 22 ∧ 32 * c ≤ y ∧ y < 32 * c + m then nI 0 else if x = 24 ∧ 32 * c ≤ y ∧ y < 32 * c + m ∧ wrM σ c (y - 32 * c) then num else σ.1 x y
def epJ (σ : pST) (c : Nat) (m : Nat) : Nat → Nat → Int64 := fun x y => if x = 23 ∧ 32 * c ≤ y ∧ y < 32 * c + m ∧ wrM σ c (y - 32 * c) then σ.2 11 y else σ.2 x y
def frM (σ : pST) (c : Nat) : Nat → Nat
  | 0 => 0
  | m + 1 => if frM σ c m = 0 ∧ wrM σ c m ∧ σ.1 21 (32 * c + m) = 0 then 1 else frM σ c m
theorem frM_le {σ : pST} {c : Nat} : ∀ m, frM σ c m ≤ 1
  | 0 => Nat.zero_le _
  | m + 1 => by unfold frM; split; · exact Nat.le_refl _
                · exact frM_le m
theorem ep_0 {σ : pST} {c : Nat} {num : Int32} : ((epI σ c num 0, epJ σ c 0) : pST) = σ := by
  refine Prod.ext ?_ ?_
  · funext x y
    show (if _ then _ else _) = _
    rw [if_neg (by omega), if_neg (by omega), if_neg (by omega)]
  · funext x y
    show (if _ then _ else _) = _
    rw [if_neg (by omega)]
theorem ep_o {σ : pST} {c x y m : Nat} {num : Int32} (h1 : x ≠ 21) (h2 : x ≠ 22) (h3 : x ≠ 24) : epI σ c num m x y = σ.1 x y := by
  unfold epI
  rw [if_neg (fun z => h1 z.1), if_neg (fun z => h2 z.1), if_neg (fun z => h3 z.1)]
theorem ep_21 {σ : pST} {c m : Nat} {num : Int32} : epI σ c num m 21 (32 * c + m) = σ.1 21 (32 * c + m) := by
  unfold epI
  rw [if_neg (by omega), if_neg (by omega), if_neg (by omega)]
theorem epJ_o {σ : pST} {c x y m : Nat} (h : x ≠ 23) : epJ σ c m x y = σ.2 x y := if_neg (fun z => h z.1)
theorem ep_t {σ : pST} {c i : Nat} {num : Int32} (h : wrM σ c i) : ((pm_ui (pm_ui (pm_ui (epI σ c num i) 21 (32 * c + i) (nI 1)) 22 (32 * c + i) (nI 0)) 24 (32 * c + i) num, pm_uj (epJ σ c i) 23 (32 * c + i) (σ.2 11 (32 * c + i))) : pST) = (epI σ c num (i + 1), epJ σ c (i + 1)) := by
  refine Prod.ext ?_ ?_
  · funext x y
    show pm_ui (pm_ui (pm_ui (epI σ c num i) 21 (32 * c + i) (nI 1)) 22 (32 * c + i) (nI 0)) 24 (32 * c + i) num x y = epI σ c num (i + 1) x y
    simp only [pm_ui_a, epI]
    by_cases hy : y = 32 * c + i
    · have e : y - 32 * c = i := by omega
      rw [e]
      by_cases h1 : x = 24
      · rw [if_pos ⟨h1, hy⟩, if_neg (by omega), if_neg (by omega), if_pos ⟨h1, by omega, by omega, h⟩]
      · rw [if_neg (fun z => h1 z.1)]
        by_cases h2 : x = 22
        · rw [if_pos ⟨h2, hy⟩, if_neg (by omega), if_pos ⟨h2, by omega, by omega⟩]
        · rw [if_neg (fun z => h2 z.1)]
          by_cases h3 : x = 21
          · rw [if_pos ⟨h3, hy⟩, if_pos ⟨h3, by omega, by omega⟩, if_pos h]
          · rw [if_neg (fun z => h3 z.1), if_neg (fun z => h3 z.1), if_neg (fun z => h2 z.1), if_neg (fun z => h1 z.1), if_neg (fun z => h3 z.1), if_neg (fun z => h2 z.1), if_neg (fun z => h1 z.1)]
    · rw [if_neg (fun z => hy z.2), if_neg (fun z => hy z.2), if_neg (fun z => hy z.2)]
      have q : (32 * c ≤ y ∧ y < 32 * c + (i + 1)) ↔ (32 * c ≤ y ∧ y < 32 * c + i) := by omega
      have q2 : ∀ P : Prop, (32 * c ≤ y ∧ y < 32 * c + (i + 1) ∧ P) ↔ (32 * c ≤ y ∧ y < 32 * c + i ∧ P) := fun P => ⟨fun z => ⟨z.1, by have := z.2.1; omega, z.2.2⟩, fun z => ⟨z.1, by have := z.2.1; omega, z.2.2⟩⟩
      simp only [q, q2]
  · funext x y
    show pm_uj (epJ σ c i) 23 (32 * c + i) (σ.2 11 (32 * c + i)) x y = epJ σ c (i + 1) x y
    simp only [pm_uj_a, epJ]
    by_cases hy : y = 32 * c + i
    · have e : y - 32 * c = i := by omega
      rw [e]
      by_cases h1 : x = 23
      · rw [if_pos ⟨h1, hy⟩, if_pos ⟨h1, by omega, by omega, h⟩, hy]
      · rw [if_neg (fun z => h1 z.1), if_neg (fun z => h1 z.1), if_neg (fun z => h1 z.1)]
    · rw [if_neg (fun z => hy z.2)]
      have q2 : ∀ P : Prop, (32 * c ≤ y ∧ y < 32 * c + (i + 1) ∧ P) ↔ (32 * c ≤ y ∧ y < 32 * c + i ∧ P) := fun P => ⟨fun z => ⟨z.1, by have := z.2.1; omega, z.2.2⟩, fun z => ⟨z.1, by have := z.2.1; omega, z.2.2⟩⟩
      simp only [q2]
theorem ep_f {σ : pST} {c i : Nat} {num : Int32} (h : ¬ wrM σ c i) : ((pm_ui (pm_ui (epI σ c num i) 21 (32 * c + i) (nI 0)) 22 (32 * c + i) (nI 0), epJ σ c i) : pST) = (epI σ c num (i + 1), epJ σ c (i + 1)) := by
  refine Prod.ext ?_ ?_
  · funext x y
    show pm_ui (pm_ui (epI σ c num i) 21 (32 * c + i) (nI 0)) 22 (32 * c + i) (nI 0) x y = epI σ c num (i + 1) x y
    simp only [pm_ui_a, epI]
    by_cases hy : y = 32 * c + i
    · have e : y - 32 * c = i := by omega
      rw [e]
      by_cases h2 : x = 22
      · rw [if_pos ⟨h2, hy⟩, if_neg (by omega), if_pos ⟨h2, by omega, by omega⟩]
      · rw [if_neg (fun z => h2 z.1)]
        by_cases h3 : x = 21
        · rw [if_pos ⟨h3, hy⟩, if_pos ⟨h3, by omega, by omega⟩, if_neg h]
        · rw [if_neg (fun z => h3 z.1), if_neg (fun z => h3 z.1), if_neg (fun z => h2 z.1), if_neg (by omega), if_neg (fun z => h3 z.1), if_neg (fun z => h2 z.1), if_neg (fun z => h z.2.2.2)]
    · rw [if_neg (fun z => hy z.2), if_neg (fun z => hy z.2)]
      have q : (32 * c ≤ y ∧ y < 32 * c + (i + 1)) ↔ (32 * c ≤ y ∧ y < 32 * c + i) := by omega
      have q2 : ∀ P : Prop, (32 * c ≤ y ∧ y < 32 * c + (i + 1) ∧ P) ↔ (32 * c ≤ y ∧ y < 32 * c + i ∧ P) := fun P => ⟨fun z => ⟨z.1, by have := z.2.1; omega, z.2.2⟩, fun z => ⟨z.1, by have := z.2.1; omega, z.2.2⟩⟩
      simp only [q, q2]
  · funext x y
    show epJ σ c i x y = epJ σ c (i + 1) x y
    simp only [epJ]
    by_cases hy : y = 32 * c + i
    · have e : y - 32 * c = i := by omega
      rw [e, if_neg (by omega), if_neg (fun z => h z.2.2.2)]
    · have q2 : ∀ P : Prop, (32 * c ≤ y ∧ y < 32 * c + (i + 1) ∧ P) ↔ (32 * c ≤ y ∧ y < 32 * c + i ∧ P) := fun P => ⟨fun z => ⟨z.1, by have := z.2.1; omega, z.2.2⟩, fun z => ⟨z.1, by have := z.2.1; omega, z.2.2⟩⟩
      simp only [q2]
