/-! ===== settle: the calls one by one ===== -/
set_option maxRecDepth 100000 in
theorem sl_X8_settle {σ : pST} {c : Nat} (hc : c < 16) {post : pRT → Prop} (K : pR shM tX8_settle fX8_settle qX8_settle lX8_settle 6 0 post 60 [(1, .inl (nI c)), (0, .inr (.inr 0))] [] (σ.1, sjJ σ c 32)) : ∀ (m i : Nat), i + m = 32 → pR shM tX8_settle fX8_settle qX8_settle lX8_settle 6 0 post 17 [(2, .inl (nI i)), (1, .inl (nI c)), (0, .inr (.inr 0))] [] (σ.1, sjJ σ c i) := by
  intro m
  induction m with
  | zero =>
    intro i hi
    refine pr_iload_n tX8_settle_17 0 rfl ?_
    refine pr_bipush (v := nI 32) tX8_settle_18 rfl ?_
    refine pr_ic_ge (pc' := 60) tX8_settle_20 rfl (fun hc20 => ?_) (fun hc20 => ?_)
    · skip
      have hc20 : 32 ≤ i := (nI_leI (by omega) (by omega)).mp hc20
      refine pR_sub (L' := [(1, .inl (nI c)), (0, .inr (.inr 0))]) [1, 2] rfl ?_
      rw [show i = 32 by omega]
      exact K
    · skip
      exact absurd ((nI_leI (by omega) (by omega)).mpr (by omega)) hc20
  | succ m ih =>
    intro i hi
    refine pr_iload_n tX8_settle_17 0 rfl ?_
    refine pr_bipush (v := nI 32) tX8_settle_18 rfl ?_
    refine pr_ic_ge (pc' := 60) tX8_settle_20 rfl (fun hc20 => ?_) (fun hc20 => ?_)
    · skip
      exact absurd ((nI_leI (by omega) (by omega)).mp hc20) (by omega)
    · skip
      have hc20 : ¬ 32 ≤ i := fun z9 => hc20 ((nI_leI (by omega) (by omega)).mpr z9)
      refine pr_aload_n tX8_settle_23 2 rfl ?_
      refine pr_geta (j := 21) tX8_settle_24 rfl rfl rfl rfl ?_
      refine pr_bipush (v := nI 32) tX8_settle_27 rfl ?_
      refine pr_iload_n tX8_settle_29 1 rfl ?_
      refine pr_imul (v := (nI (32 * c))) tX8_settle_30 (pk_mul _ _) ?_
      refine pr_iload_n tX8_settle_31 0 rfl ?_
      refine pr_iadd (v := (nI (32 * c + i))) tX8_settle_32 (nI_add _ _) ?_
      refine pr_zal tX8_settle_33 (32 * c + i) rfl rfl (by omega) (by decide) ?_
      refine pr_if_eq (pc' := 54) tX8_settle_34 rfl (fun hc34 => ?_) (fun hc34 => ?_)
      · skip
        skip
        refine pr_iinc (v := (nI (i + 1))) (L' := [(2, .inl (nI (i + 1))), (1, .inl (nI c)), (0, .inr (.inr 0))]) tX8_settle_54 0 rfl (nI_1 _) (by decide) rfl ?_
        refine pr_goto (pc' := 17) tX8_settle_57 rfl ?_
        refine pR_sub (L' := [(2, .inl (nI (i + 1))), (1, .inl (nI c)), (0, .inr (.inr 0))]) [0, 1, 2] rfl ?_
        have e9 : ((σ.1, sjJ σ c i) : pST) = (σ.1, sjJ σ c (i + 1)) := by rw [sjJ_f (σ := σ) hc34]
        rw [e9]
        exact ih (i + 1) (by omega)
      · skip
        skip
        refine pr_aload_n tX8_settle_37 2 rfl ?_
        refine pr_geta (j := 1) tX8_settle_38 rfl rfl rfl rfl ?_
        refine pr_iload_n tX8_settle_41 0 rfl ?_
        refine pr_aload_n tX8_settle_42 2 rfl ?_
        refine pr_geta (j := 23) tX8_settle_43 rfl rfl rfl rfl ?_
        refine pr_bipush (v := nI 32) tX8_settle_46 rfl ?_
        refine pr_iload_n tX8_settle_48 1 rfl ?_
        refine pr_imul (v := (nI (32 * c))) tX8_settle_49 (pk_mul _ _) ?_
        refine pr_iload_n tX8_settle_50 0 rfl ?_
        refine pr_iadd (v := (nI (32 * c + i))) tX8_settle_51 (nI_add _ _) ?_
        refine pr_lal tX8_settle_52 (32 * c + i) rfl rfl (by omega) (by decide) ?_
        refine pR_topl (y := σ.2 23 (32 * c + i)) (congrFun (sjJ_o (σ := σ) (c := c) (m := i) (x := 23) (by decide)) _) ?_
        refine pr_las tX8_settle_53 i rfl rfl (by omega) (by decide) ?_
        obtain ⟨σ1, eσ1⟩ : ∃ z : pST, z = ((σ.1, sjJ σ c i).1, pm_uj (σ.1, sjJ σ c i).2 1 i (σ.2 23 (32 * c + i))) := ⟨_, rfl⟩
        rw [← eσ1]
        refine pr_iinc (v := (nI (i + 1))) (L' := [(2, .inl (nI (i + 1))), (1, .inl (nI c)), (0, .inr (.inr 0))]) tX8_settle_54 0 rfl (nI_1 _) (by decide) rfl ?_
        refine pr_goto (pc' := 17) tX8_settle_57 rfl ?_
        refine pR_sub (L' := [(2, .inl (nI (i + 1))), (1, .inl (nI c)), (0, .inr (.inr 0))]) [0, 1, 2] rfl ?_
        have e9 : σ1 = (σ.1, sjJ σ c (i + 1)) := by rw [eσ1]; exact Prod.ext rfl (sjJ_t (σ := σ) hc34)
        rw [e9]
        exact ih (i + 1) (by omega)

theorem evI_o {σ : pST} {c o m x y : Nat} (h1 : x ≠ 35) (h2 : ¬ (x = 0 ∧ y = 50)) : evI σ c o m x y = σ.1 x y := by
  unfold evI
  rw [if_neg (fun z => h1 z.1), if_neg h2]
theorem evI_50 {σ : pST} {c o m : Nat} : evI σ c o m 0 50 = nI (o + m) := by
  unfold evI
  rw [if_neg (fun z => absurd z.1 (by decide)), if_pos ⟨rfl, rfl⟩]
theorem evJ_o {σ : pST} {c o m x y : Nat} (h1 : x ≠ 34) : evJ σ c o m x y = σ.2 x y := if_neg (fun z => h1 z.1)

set_option maxRecDepth 100000 in
theorem se_X8_settle {σ : pST} {A : AtS} {c o : Nat} (hc : c < 16) (hen : σ.1 17 c = nI A.en) (he12 : A.en ≤ 12) (hfl : σ.1 9 c = cond A.fl 1 0) (ho : o + 12 ≤ 192) {post : pRT → Prop} (K : pR shM tX8_settle fX8_settle qX8_settle lX8_settle 6 0 post 127 [(1, .inl (nI c)), (0, .inr (.inr 0))] [] (evI σ c o (enE A), evJ σ c o (enE A))) : ∀ (m i : Nat), i + m = enE A → pR shM tX8_settle fX8_settle qX8_settle lX8_settle 6 0 post 62 [(2, .inl (nI i)), (1, .inl (nI c)), (0, .inr (.inr 0))] [] (evI σ c o i, evJ σ c o i) := by
  intro m
  induction m with
  | zero =>
    intro i hi
    cases hf : A.fl with
    | true =>
      have h0 : enE A = 0 := by unfold enE; rw [hf]; rfl
      refine pr_iload_n tX8_settle_62 0 rfl ?_
      refine pr_aload_n tX8_settle_63 2 rfl ?_
      refine pr_geta (j := 17) tX8_settle_64 rfl rfl rfl rfl ?_
      refine pr_iload_n tX8_settle_67 1 rfl ?_
      refine pr_ial tX8_settle_68 c rfl rfl (by omega) (by decide) ?_
      refine pR_topi (y := (nI A.en)) ((evI_o (σ := σ) (c := c) (o := o) (m := i) (by decide) (fun z => absurd z.1 (by decide))).trans hen) ?_
      refine pr_ic_ge (pc' := 127) tX8_settle_69 rfl (fun hc69 => ?_) (fun hc69 => ?_)
      · skip
        have hc69 : A.en ≤ i := (nI_leI (by omega) (by omega)).mp hc69
        refine pR_sub (L' := [(1, .inl (nI c)), (0, .inr (.inr 0))]) [1, 2] rfl ?_
        rw [show i = enE A by omega]
        exact K
      · skip
        have hc69 : ¬ A.en ≤ i := fun z9 => hc69 ((nI_leI (by omega) (by omega)).mpr z9)
        refine pr_aload_n tX8_settle_72 2 rfl ?_
        refine pr_geta (j := 9) tX8_settle_73 rfl rfl rfl rfl ?_
        refine pr_iload_n tX8_settle_76 1 rfl ?_
        refine pr_zal tX8_settle_77 c rfl rfl (by omega) (by decide) ?_
        refine pR_topi (y := (nI 1)) ((evI_o (σ := σ) (c := c) (o := o) (m := i) (by decide) (fun z => absurd z.1 (by decide))).trans (hfl.trans (by rw [hf]; rfl))) ?_
        refine pr_if_ne (pc' := 127) tX8_settle_78 rfl (fun hc78 => ?_) (fun hc78 => ?_)
        · skip
          refine pR_sub (L' := [(1, .inl (nI c)), (0, .inr (.inr 0))]) [1, 2] rfl ?_
          rw [show i = enE A by omega]
          exact K
        · skip
          exact absurd (by decide) hc78
    | false =>
      have h0 : enE A = A.en := by unfold enE; rw [hf]; rfl
      refine pr_iload_n tX8_settle_62 0 rfl ?_
      refine pr_aload_n tX8_settle_63 2 rfl ?_
      refine pr_geta (j := 17) tX8_settle_64 rfl rfl rfl rfl ?_
      refine pr_iload_n tX8_settle_67 1 rfl ?_
      refine pr_ial tX8_settle_68 c rfl rfl (by omega) (by decide) ?_
      refine pR_topi (y := (nI A.en)) ((evI_o (σ := σ) (c := c) (o := o) (m := i) (by decide) (fun z => absurd z.1 (by decide))).trans hen) ?_
      refine pr_ic_ge (pc' := 127) tX8_settle_69 rfl (fun hc69 => ?_) (fun hc69 => ?_)
      · skip
        have hc69 : A.en ≤ i := (nI_leI (by omega) (by omega)).mp hc69
        refine pR_sub (L' := [(1, .inl (nI c)), (0, .inr (.inr 0))]) [1, 2] rfl ?_
        rw [show i = enE A by omega]
        exact K
      · skip
        exact absurd ((nI_leI (by omega) (by omega)).mpr (by omega)) hc69
  | succ m ih =>
    intro i hi
    have hf : A.fl = false := by
      cases hf : A.fl with
      | false => rfl
      | true =>
        have h0 : enE A = 0 := by unfold enE; rw [hf]; rfl
        omega
    have h0 : enE A = A.en := by unfold enE; rw [hf]; rfl
    refine pr_iload_n tX8_settle_62 0 rfl ?_
    refine pr_aload_n tX8_settle_63 2 rfl ?_
    refine pr_geta (j := 17) tX8_settle_64 rfl rfl rfl rfl ?_
    refine pr_iload_n tX8_settle_67 1 rfl ?_
    refine pr_ial tX8_settle_68 c rfl rfl (by omega) (by decide) ?_
    refine pR_topi (y := (nI A.en)) ((evI_o (σ := σ) (c := c) (o := o) (m := i) (by decide) (fun z => absurd z.1 (by decide))).trans hen) ?_
    refine pr_ic_ge (pc' := 127) tX8_settle_69 rfl (fun hc69 => ?_) (fun hc69 => ?_)
    · skip
      exact absurd ((nI_leI (by omega) (by omega)).mp hc69) (by omega)
    · skip
      have hc69 : ¬ A.en ≤ i := fun z9 => hc69 ((nI_leI (by omega) (by omega)).mpr z9)
      refine pr_aload_n tX8_settle_72 2 rfl ?_
      refine pr_geta (j := 9) tX8_settle_73 rfl rfl rfl rfl ?_
      refine pr_iload_n tX8_settle_76 1 rfl ?_
      refine pr_zal tX8_settle_77 c rfl rfl (by omega) (by decide) ?_
      refine pR_topi (y := (nI 0)) ((evI_o (σ := σ) (c := c) (o := o) (m := i) (by decide) (fun z => absurd z.1 (by decide))).trans (hfl.trans (by rw [hf]; rfl))) ?_
      refine pr_if_ne (pc' := 127) tX8_settle_78 rfl (fun hc78 => ?_) (fun hc78 => ?_)
      · skip
        exact absurd hc78 (by decide)
      · skip
        refine pr_aload_n tX8_settle_81 2 rfl ?_
        refine pr_geta (j := 34) tX8_settle_82 rfl rfl rfl rfl ?_
        refine pr_aload_n tX8_settle_85 2 rfl ?_
        refine pr_get0 tX8_settle_86 rfl rfl rfl ?_
        refine pR_topi (y := (nI (o + i))) (evI_50 (σ := σ) (c := c)) ?_
        refine pr_aload_n tX8_settle_89 2 rfl ?_
        refine pr_geta (j := 18) tX8_settle_90 rfl rfl rfl rfl ?_
        refine pr_bipush (v := nI 12) tX8_settle_93 rfl ?_
        refine pr_iload_n tX8_settle_95 1 rfl ?_
        refine pr_imul (v := (nI (12 * c))) tX8_settle_96 (pk_mul _ _) ?_
        refine pr_iload_n tX8_settle_97 0 rfl ?_
        refine pr_iadd (v := (nI (12 * c + i))) tX8_settle_98 (nI_add _ _) ?_
        refine pr_lal tX8_settle_99 (12 * c + i) rfl rfl (by omega) (by decide) ?_
        refine pR_topl (y := σ.2 18 (12 * c + i)) (evJ_o (σ := σ) (c := c) (o := o) (m := i) (x := 18) (by decide)) ?_
        refine pr_las tX8_settle_100 (o + i) rfl rfl (by omega) (by decide) ?_
        obtain ⟨σ1, eσ1⟩ : ∃ z : pST, z = ((evI σ c o i, evJ σ c o i).1, pm_uj (evI σ c o i, evJ σ c o i).2 34 (o + i) (σ.2 18 (12 * c + i))) := ⟨_, rfl⟩
        rw [← eσ1]
        refine pr_aload_n tX8_settle_101 2 rfl ?_
        refine pr_geta (j := 35) tX8_settle_102 rfl rfl rfl rfl ?_
        refine pr_aload_n tX8_settle_105 2 rfl ?_
        refine pr_get0 tX8_settle_106 rfl rfl rfl ?_
        refine pR_topi (y := (nI (o + i))) (by rw [eσ1]; exact evI_50 (σ := σ) (c := c)) ?_
        refine pr_iload_n tX8_settle_109 1 rfl ?_
        refine pr_ias tX8_settle_110 (o + i) rfl rfl (by omega) (by decide) ?_
        obtain ⟨σ2, eσ2⟩ : ∃ z : pST, z = (pm_ui σ1.1 35 (o + i) (nI c), σ1.2) := ⟨_, rfl⟩
        rw [← eσ2]
        refine pr_aload_n tX8_settle_111 2 rfl ?_
        refine pr_dup tX8_settle_112 rfl ?_
        refine pr_get0 tX8_settle_113 rfl rfl rfl ?_
        refine pR_topi (y := (nI (o + i))) (by simp [eσ1, eσ2, pm_ui_a, evI_50]) ?_
        refine pr_iconst (v := nI 1) tX8_settle_116 rfl ?_
        refine pr_iadd (v := (nI (o + i + 1))) tX8_settle_117 (nI_add _ _) ?_
        refine pr_put0 tX8_settle_118 rfl rfl rfl ?_
        obtain ⟨σ3, eσ3⟩ : ∃ z : pST, z = (pm_ui σ2.1 0 50 (nI (o + i + 1)), σ2.2) := ⟨_, rfl⟩
        rw [← eσ3]
        refine pr_iinc (v := (nI (i + 1))) (L' := [(2, .inl (nI (i + 1))), (1, .inl (nI c)), (0, .inr (.inr 0))]) tX8_settle_121 0 rfl (nI_1 _) (by decide) rfl ?_
        refine pr_goto (pc' := 62) tX8_settle_124 rfl ?_
        refine pR_sub (L' := [(2, .inl (nI (i + 1))), (1, .inl (nI c)), (0, .inr (.inr 0))]) [0, 1, 2] rfl ?_
        have e9 : σ3 = (evI σ c o (i + 1), evJ σ c o (i + 1)) := by rw [eσ3, eσ2, eσ1]; exact ev_s
        rw [e9]
        exact ih (i + 1) (by omega)

set_option maxRecDepth 100000 in
theorem sw_X8_settle {σ ρ : pST} {c : Nat} (hc : c < 16) (e10 : ∀ y, ρ.1 10 y = σ.1 10 y) (e9 : ρ.1 9 c = σ.1 9 c) {post : pRT → Prop} (K : pR shM tX8_settle fX8_settle qX8_settle lX8_settle 6 0 post 174 [(2, .inl (nI (wcM σ c 32))), (1, .inl (nI c)), (0, .inr (.inr 0))] [] ρ) : ∀ (m i : Nat), i + m = 32 → pR shM tX8_settle fX8_settle qX8_settle lX8_settle 6 0 post 131 [(3, .inl (nI i)), (2, .inl (nI (wcM σ c i))), (1, .inl (nI c)), (0, .inr (.inr 0))] [] ρ := by
  intro m
  induction m with
  | zero =>
    intro i hi
    refine pr_iload_n tX8_settle_131 0 rfl ?_
    refine pr_bipush (v := nI 32) tX8_settle_132 rfl ?_
    refine pr_ic_ge (pc' := 174) tX8_settle_134 rfl (fun hc134 => ?_) (fun hc134 => ?_)
    · skip
      have hc134 : 32 ≤ i := (nI_leI (by omega) (by omega)).mp hc134
      refine pR_sub (L' := [(2, .inl (nI (wcM σ c i))), (1, .inl (nI c)), (0, .inr (.inr 0))]) [1, 2, 3] rfl ?_
      rw [show i = 32 by omega]
      exact K
    · skip
      exact absurd ((nI_leI (by omega) (by omega)).mpr (by omega)) hc134
  | succ m ih =>
    intro i hi
    refine pr_iload_n tX8_settle_131 0 rfl ?_
    refine pr_bipush (v := nI 32) tX8_settle_132 rfl ?_
    refine pr_ic_ge (pc' := 174) tX8_settle_134 rfl (fun hc134 => ?_) (fun hc134 => ?_)
    · skip
      exact absurd ((nI_leI (by omega) (by omega)).mp hc134) (by omega)
    · skip
      have hc134 : ¬ 32 ≤ i := fun z9 => hc134 ((nI_leI (by omega) (by omega)).mpr z9)
      refine pr_iload_n tX8_settle_137 1 rfl ?_
      refine pr_aload_n tX8_settle_138 3 rfl ?_
      refine pr_geta (j := 10) tX8_settle_139 rfl rfl rfl rfl ?_
      refine pr_bipush (v := nI 32) tX8_settle_142 rfl ?_
      refine pr_iload_n tX8_settle_144 2 rfl ?_
      refine pr_imul (v := (nI (32 * c))) tX8_settle_145 (pk_mul _ _) ?_
      refine pr_iload_n tX8_settle_146 0 rfl ?_
      refine pr_iadd (v := (nI (32 * c + i))) tX8_settle_147 (nI_add _ _) ?_
      refine pr_zal tX8_settle_148 (32 * c + i) rfl rfl (by omega) (by decide) ?_
      refine pR_topi (y := (σ.1 10 (32 * c + i))) (e10 _) ?_
      refine pr_if_eq (pc' := 165) tX8_settle_149 rfl (fun hc149 => ?_) (fun hc149 => ?_)
      · skip
        skip
        refine pr_iconst (v := nI 0) tX8_settle_165 rfl ?_
        refine pr_iadd (v := (nI (wcM σ c i + 0))) tX8_settle_166 (nI_add _ _) ?_
        refine pr_istore_n (L' := [(2, .inl (nI (wcM σ c i + 0))), (3, .inl (nI i)), (1, .inl (nI c)), (0, .inr (.inr 0))]) tX8_settle_167 (by decide) rfl ?_
        refine pr_iinc (v := (nI (i + 1))) (L' := [(3, .inl (nI (i + 1))), (2, .inl (nI (wcM σ c i + 0))), (1, .inl (nI c)), (0, .inr (.inr 0))]) tX8_settle_168 1 rfl (nI_1 _) (by decide) rfl ?_
        refine pr_goto (pc' := 131) tX8_settle_171 rfl ?_
        refine pR_sub (L' := [(3, .inl (nI (i + 1))), (2, .inl (nI (wcM σ c i + 0))), (1, .inl (nI c)), (0, .inr (.inr 0))]) [0, 1, 2, 3] rfl ?_
        have z := ih (i + 1) (by omega)
        rw [show wcM σ c (i + 1) = wcM σ c i + 0 from by
          show wcM σ c i + (if wrM σ c i then 1 else 0) = _
          rw [if_neg (fun q => by first | exact q.1 hc149 | exact hc158 q.2)]] at z
        exact z
      · skip
        skip
        refine pr_aload_n tX8_settle_152 3 rfl ?_
        refine pr_geta (j := 9) tX8_settle_153 rfl rfl rfl rfl ?_
        refine pr_iload_n tX8_settle_156 2 rfl ?_
        refine pr_zal tX8_settle_157 c rfl rfl (by omega) (by decide) ?_
        refine pR_topi (y := (σ.1 9 c)) (e9) ?_
        refine pr_if_ne (pc' := 165) tX8_settle_158 rfl (fun hc158 => ?_) (fun hc158 => ?_)
        · skip
          skip
          refine pr_iconst (v := nI 0) tX8_settle_165 rfl ?_
          refine pr_iadd (v := (nI (wcM σ c i + 0))) tX8_settle_166 (nI_add _ _) ?_
          refine pr_istore_n (L' := [(2, .inl (nI (wcM σ c i + 0))), (3, .inl (nI i)), (1, .inl (nI c)), (0, .inr (.inr 0))]) tX8_settle_167 (by decide) rfl ?_
          refine pr_iinc (v := (nI (i + 1))) (L' := [(3, .inl (nI (i + 1))), (2, .inl (nI (wcM σ c i + 0))), (1, .inl (nI c)), (0, .inr (.inr 0))]) tX8_settle_168 1 rfl (nI_1 _) (by decide) rfl ?_
          refine pr_goto (pc' := 131) tX8_settle_171 rfl ?_
          refine pR_sub (L' := [(3, .inl (nI (i + 1))), (2, .inl (nI (wcM σ c i + 0))), (1, .inl (nI c)), (0, .inr (.inr 0))]) [0, 1, 2, 3] rfl ?_
          have z := ih (i + 1) (by omega)
          rw [show wcM σ c (i + 1) = wcM σ c i + 0 from by
            show wcM σ c i + (if wrM σ c i then 1 else 0) = _
            rw [if_neg (fun q => by first | exact q.1 hc149 | exact hc158 q.2)]] at z
          exact z
        · skip
          have hc158 := Decidable.not_not.mp hc158
          refine pr_iconst (v := nI 1) tX8_settle_161 rfl ?_
          refine pr_goto (pc' := 166) tX8_settle_162 rfl ?_
          refine pr_iadd (v := (nI (wcM σ c i + 1))) tX8_settle_166 (nI_add _ _) ?_
          refine pr_istore_n (L' := [(2, .inl (nI (wcM σ c i + 1))), (3, .inl (nI i)), (1, .inl (nI c)), (0, .inr (.inr 0))]) tX8_settle_167 (by decide) rfl ?_
          refine pr_iinc (v := (nI (i + 1))) (L' := [(3, .inl (nI (i + 1))), (2, .inl (nI (wcM σ c i + 1))), (1, .inl (nI c)), (0, .inr (.inr 0))]) tX8_settle_168 1 rfl (nI_1 _) (by decide) rfl ?_
          refine pr_goto (pc' := 131) tX8_settle_171 rfl ?_
          refine pR_sub (L' := [(3, .inl (nI (i + 1))), (2, .inl (nI (wcM σ c i + 1))), (1, .inl (nI c)), (0, .inr (.inr 0))]) [0, 1, 2, 3] rfl ?_
          have z := ih (i + 1) (by omega)
          rw [show wcM σ c (i + 1) = wcM σ c i + 1 from by
            show wcM σ c i + (if wrM σ c i then 1 else 0) = _
            rw [if_pos ⟨hc149, hc158⟩]] at z
          exact z
