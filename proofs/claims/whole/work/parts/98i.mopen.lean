set_option maxRecDepth 100000 in
theorem cq_X8_run {σ : pST} {sz : Nat} {u : Int32} {post : pRT → Prop} (K : pR shM tX8_run fX8_run qX8_run lX8_run 4 1 post 94 [(0, .inr (.inr 0)), (1, .inl (nI sz)), (2, .inl u)] [] (clM σ.1 512, σ.2)) : ∀ (m i : Nat), i + m = 512 → pR shM tX8_run fX8_run qX8_run lX8_run 4 1 post 67 [(3, .inl (nI i)), (0, .inr (.inr 0)), (1, .inl (nI sz)), (2, .inl u)] [] (clM σ.1 i, σ.2) := by
  intro m
  induction m with
  | zero =>
    intro i hi
    refine pr_iload_n tX8_run_67 0 rfl ?_
    refine pr_sipush (v := nI 512) tX8_run_68 rfl ?_
    refine pr_ic_ge (pc' := 94) tX8_run_71 rfl (fun hc71 => ?_) (fun hc71 => ?_)
    · skip
      have hc71 : 512 ≤ i := (nI_leI (by omega) (by omega)).mp hc71
      refine pR_sub (L' := [(0, .inr (.inr 0)), (1, .inl (nI sz)), (2, .inl u)]) [1, 2, 3] rfl ?_
      rw [show i = 512 by omega]
      exact K
    · skip
      exact absurd ((nI_leI (by omega) (by omega)).mpr (by omega)) hc71
  | succ m ih =>
    intro i hi
    refine pr_iload_n tX8_run_67 0 rfl ?_
    refine pr_sipush (v := nI 512) tX8_run_68 rfl ?_
    refine pr_ic_ge (pc' := 94) tX8_run_71 rfl (fun hc71 => ?_) (fun hc71 => ?_)
    · skip
      exact absurd ((nI_leI (by omega) (by omega)).mp hc71) (by omega)
    · skip
      have hc71 : ¬ 512 ≤ i := fun z9 => hc71 ((nI_leI (by omega) (by omega)).mpr z9)
      refine pr_aload_n tX8_run_74 1 rfl ?_
      refine pr_geta (j := 21) tX8_run_75 rfl rfl rfl rfl ?_
      refine pr_iload_n tX8_run_78 0 rfl ?_
      refine pr_iconst (v := nI 0) tX8_run_79 rfl ?_
      refine pr_zas tX8_run_80 i rfl rfl (by omega) (by decide) (by decide) ?_
      obtain ⟨σ1, eσ1⟩ : ∃ z : pST, z = (pm_ui (clM σ.1 i, σ.2).1 21 i (nI 0), (clM σ.1 i, σ.2).2) := ⟨_, rfl⟩
      rw [← eσ1]
      refine pr_aload_n tX8_run_81 1 rfl ?_
      refine pr_geta (j := 22) tX8_run_82 rfl rfl rfl rfl ?_
      refine pr_iload_n tX8_run_85 0 rfl ?_
      refine pr_iconst (v := nI 0) tX8_run_86 rfl ?_
      refine pr_zas tX8_run_87 i rfl rfl (by omega) (by decide) (by decide) ?_
      obtain ⟨σ2, eσ2⟩ : ∃ z : pST, z = (pm_ui σ1.1 22 i (nI 0), σ1.2) := ⟨_, rfl⟩
      rw [← eσ2]
      refine pr_iinc (v := (nI (i + 1))) (L' := [(3, .inl (nI (i + 1))), (0, .inr (.inr 0)), (1, .inl (nI sz)), (2, .inl u)]) tX8_run_88 0 rfl (nI_1 _) (by decide) rfl ?_
      refine pr_goto (pc' := 67) tX8_run_91 rfl ?_
      refine pR_sub (L' := [(3, .inl (nI (i + 1))), (0, .inr (.inr 0)), (1, .inl (nI sz)), (2, .inl u)]) [0, 1, 2, 3] rfl ?_
      have e9 : σ2 = (clM σ.1 (i + 1), σ.2) := by rw [eσ2, eσ1]; exact Prod.ext clM_s rfl
      rw [e9]
      exact ih (i + 1) (by omega)

def zcM (I : Nat → Nat → Int32) (m : Nat) : Nat → Nat → Int32 := fun x y => if (x = 25 ∨ x = 26 ∨ x = 19 ∨ x = 20 ∨ x = 12 ∨ x = 9 ∨ x = 17) ∧ y < m then nI 0 else I x y
theorem zcM_0 {I : Nat → Nat → Int32} : zcM I 0 = I := by
  funext x y
  exact if_neg (by omega)
theorem zcM_s {I : Nat → Nat → Int32} {i : Nat} : pm_ui (pm_ui (pm_ui (pm_ui (pm_ui (pm_ui (pm_ui (zcM I i) 25 i (nI 0)) 26 i (nI 0)) 19 i (nI 0)) 20 i (nI 0)) 12 i (nI 0)) 9 i (nI 0)) 17 i (nI 0) = zcM I (i + 1) := by
  funext x y
  simp only [pm_ui_a]
  by_cases hy : y = i
  · by_cases hx : x = 25 ∨ x = 26 ∨ x = 19 ∨ x = 20 ∨ x = 12 ∨ x = 9 ∨ x = 17
    · have e : zcM I (i + 1) x y = nI 0 := if_pos ⟨hx, by omega⟩
      rw [e]
      rcases hx with h | h | h | h | h | h | h <;> subst h <;> subst hy <;> simp
    · have e : zcM I (i + 1) x y = I x y := if_neg (fun z => hx z.1)
      have e2 : zcM I i x y = I x y := if_neg (fun z => hx z.1)
      rw [e, if_neg (by omega), if_neg (by omega), if_neg (by omega), if_neg (by omega), if_neg (by omega), if_neg (by omega), if_neg (by omega), e2]
  · rw [if_neg (fun z => hy z.2), if_neg (fun z => hy z.2), if_neg (fun z => hy z.2), if_neg (fun z => hy z.2), if_neg (fun z => hy z.2), if_neg (fun z => hy z.2), if_neg (fun z => hy z.2)]
    unfold zcM
    by_cases q : (x = 25 ∨ x = 26 ∨ x = 19 ∨ x = 20 ∨ x = 12 ∨ x = 9 ∨ x = 17) ∧ y < i
    · rw [if_pos q, if_pos ⟨q.1, by omega⟩]
    · rw [if_neg q, if_neg (by omega)]

set_option maxRecDepth 100000 in
theorem cz_X8_run {σ : pST} {sz : Nat} {u : Int32} {post : pRT → Prop} (K : pR shM tX8_run fX8_run qX8_run lX8_run 4 1 post 157 [(0, .inr (.inr 0)), (1, .inl (nI sz)), (2, .inl u)] [] (zcM σ.1 16, σ.2)) : ∀ (m i : Nat), i + m = 16 → pR shM tX8_run fX8_run qX8_run lX8_run 4 1 post 96 [(3, .inl (nI i)), (0, .inr (.inr 0)), (1, .inl (nI sz)), (2, .inl u)] [] (zcM σ.1 i, σ.2) := by
  intro m
  induction m with
  | zero =>
    intro i hi
    refine pr_iload_n tX8_run_96 0 rfl ?_
    refine pr_bipush (v := nI 16) tX8_run_97 rfl ?_
    refine pr_ic_ge (pc' := 157) tX8_run_99 rfl (fun hc99 => ?_) (fun hc99 => ?_)
    · skip
      have hc99 : 16 ≤ i := (nI_leI (by omega) (by omega)).mp hc99
      refine pR_sub (L' := [(0, .inr (.inr 0)), (1, .inl (nI sz)), (2, .inl u)]) [1, 2, 3] rfl ?_
      rw [show i = 16 by omega]
      exact K
    · skip
      exact absurd ((nI_leI (by omega) (by omega)).mpr (by omega)) hc99
  | succ m ih =>
    intro i hi
    refine pr_iload_n tX8_run_96 0 rfl ?_
    refine pr_bipush (v := nI 16) tX8_run_97 rfl ?_
    refine pr_ic_ge (pc' := 157) tX8_run_99 rfl (fun hc99 => ?_) (fun hc99 => ?_)
    · skip
      exact absurd ((nI_leI (by omega) (by omega)).mp hc99) (by omega)
    · skip
      have hc99 : ¬ 16 ≤ i := fun z9 => hc99 ((nI_leI (by omega) (by omega)).mpr z9)
      refine pr_aload_n tX8_run_102 1 rfl ?_
      refine pr_geta (j := 25) tX8_run_103 rfl rfl rfl rfl ?_
      refine pr_iload_n tX8_run_106 0 rfl ?_
      refine pr_iconst (v := nI 0) tX8_run_107 rfl ?_
      refine pr_ias tX8_run_108 i rfl rfl (by omega) (by decide) ?_
      obtain ⟨σ1, eσ1⟩ : ∃ z : pST, z = (pm_ui (zcM σ.1 i, σ.2).1 25 i (nI 0), (zcM σ.1 i, σ.2).2) := ⟨_, rfl⟩
      rw [← eσ1]
      refine pr_aload_n tX8_run_109 1 rfl ?_
      refine pr_geta (j := 26) tX8_run_110 rfl rfl rfl rfl ?_
      refine pr_iload_n tX8_run_113 0 rfl ?_
      refine pr_iconst (v := nI 0) tX8_run_114 rfl ?_
      refine pr_ias tX8_run_115 i rfl rfl (by omega) (by decide) ?_
      obtain ⟨σ2, eσ2⟩ : ∃ z : pST, z = (pm_ui σ1.1 26 i (nI 0), σ1.2) := ⟨_, rfl⟩
      rw [← eσ2]
      refine pr_aload_n tX8_run_116 1 rfl ?_
      refine pr_geta (j := 19) tX8_run_117 rfl rfl rfl rfl ?_
      refine pr_iload_n tX8_run_120 0 rfl ?_
      refine pr_iconst (v := nI 0) tX8_run_121 rfl ?_
      refine pr_ias tX8_run_122 i rfl rfl (by omega) (by decide) ?_
      obtain ⟨σ3, eσ3⟩ : ∃ z : pST, z = (pm_ui σ2.1 19 i (nI 0), σ2.2) := ⟨_, rfl⟩
      rw [← eσ3]
      refine pr_aload_n tX8_run_123 1 rfl ?_
      refine pr_geta (j := 20) tX8_run_124 rfl rfl rfl rfl ?_
      refine pr_iload_n tX8_run_127 0 rfl ?_
      refine pr_iconst (v := nI 0) tX8_run_128 rfl ?_
      refine pr_ias tX8_run_129 i rfl rfl (by omega) (by decide) ?_
      obtain ⟨σ4, eσ4⟩ : ∃ z : pST, z = (pm_ui σ3.1 20 i (nI 0), σ3.2) := ⟨_, rfl⟩
      rw [← eσ4]
      refine pr_aload_n tX8_run_130 1 rfl ?_
      refine pr_geta (j := 12) tX8_run_131 rfl rfl rfl rfl ?_
      refine pr_iload_n tX8_run_134 0 rfl ?_
      refine pr_iconst (v := nI 0) tX8_run_135 rfl ?_
      refine pr_ias tX8_run_136 i rfl rfl (by omega) (by decide) ?_
      obtain ⟨σ5, eσ5⟩ : ∃ z : pST, z = (pm_ui σ4.1 12 i (nI 0), σ4.2) := ⟨_, rfl⟩
      rw [← eσ5]
      refine pr_aload_n tX8_run_137 1 rfl ?_
      refine pr_geta (j := 9) tX8_run_138 rfl rfl rfl rfl ?_
      refine pr_iload_n tX8_run_141 0 rfl ?_
      refine pr_iconst (v := nI 0) tX8_run_142 rfl ?_
      refine pr_zas tX8_run_143 i rfl rfl (by omega) (by decide) (by decide) ?_
      obtain ⟨σ6, eσ6⟩ : ∃ z : pST, z = (pm_ui σ5.1 9 i (nI 0), σ5.2) := ⟨_, rfl⟩
      rw [← eσ6]
      refine pr_aload_n tX8_run_144 1 rfl ?_
      refine pr_geta (j := 17) tX8_run_145 rfl rfl rfl rfl ?_
      refine pr_iload_n tX8_run_148 0 rfl ?_
      refine pr_iconst (v := nI 0) tX8_run_149 rfl ?_
      refine pr_ias tX8_run_150 i rfl rfl (by omega) (by decide) ?_
      obtain ⟨σ7, eσ7⟩ : ∃ z : pST, z = (pm_ui σ6.1 17 i (nI 0), σ6.2) := ⟨_, rfl⟩
      rw [← eσ7]
      refine pr_iinc (v := (nI (i + 1))) (L' := [(3, .inl (nI (i + 1))), (0, .inr (.inr 0)), (1, .inl (nI sz)), (2, .inl u)]) tX8_run_151 0 rfl (nI_1 _) (by decide) rfl ?_
      refine pr_goto (pc' := 96) tX8_run_154 rfl ?_
      refine pR_sub (L' := [(3, .inl (nI (i + 1))), (0, .inr (.inr 0)), (1, .inl (nI sz)), (2, .inl u)]) [0, 1, 2, 3] rfl ?_
      have e9 : σ7 = (zcM σ.1 (i + 1), σ.2) := by rw [eσ7, eσ6, eσ5, eσ4, eσ3, eσ2, eσ1]; exact Prod.ext zcM_s rfl
      rw [e9]
      exact ih (i + 1) (by omega)

set_option maxRecDepth 100000 in
theorem ct_X8_run {σ : pST} {sz : Nat} {u : Int32} {post : pRT → Prop} (K : pR shM tX8_run fX8_run qX8_run lX8_run 4 1 post 177 [(0, .inr (.inr 0)), (1, .inl (nI sz)), (2, .inl u)] [] (filI σ.1 28 4 (nI 0), σ.2)) : ∀ (m i : Nat), i + m = 4 → pR shM tX8_run fX8_run qX8_run lX8_run 4 1 post 159 [(3, .inl (nI i)), (0, .inr (.inr 0)), (1, .inl (nI sz)), (2, .inl u)] [] (filI σ.1 28 i (nI 0), σ.2) := by
  intro m
  induction m with
  | zero =>
    intro i hi
    refine pr_iload_n tX8_run_159 0 rfl ?_
    refine pr_iconst (v := nI 4) tX8_run_160 rfl ?_
    refine pr_ic_ge (pc' := 177) tX8_run_161 rfl (fun hc161 => ?_) (fun hc161 => ?_)
    · skip
      have hc161 : 4 ≤ i := (nI_leI (by omega) (by omega)).mp hc161
      refine pR_sub (L' := [(0, .inr (.inr 0)), (1, .inl (nI sz)), (2, .inl u)]) [1, 2, 3] rfl ?_
      rw [show i = 4 by omega]
      exact K
    · skip
      exact absurd ((nI_leI (by omega) (by omega)).mpr (by omega)) hc161
  | succ m ih =>
    intro i hi
    refine pr_iload_n tX8_run_159 0 rfl ?_
    refine pr_iconst (v := nI 4) tX8_run_160 rfl ?_
    refine pr_ic_ge (pc' := 177) tX8_run_161 rfl (fun hc161 => ?_) (fun hc161 => ?_)
    · skip
      exact absurd ((nI_leI (by omega) (by omega)).mp hc161) (by omega)
    · skip
      have hc161 : ¬ 4 ≤ i := fun z9 => hc161 ((nI_leI (by omega) (by omega)).mpr z9)
      refine pr_aload_n tX8_run_164 1 rfl ?_
      refine pr_geta (j := 28) tX8_run_165 rfl rfl rfl rfl ?_
      refine pr_iload_n tX8_run_168 0 rfl ?_
      refine pr_iconst (v := nI 0) tX8_run_169 rfl ?_
      refine pr_ias tX8_run_170 i rfl rfl (by omega) (by decide) ?_
      obtain ⟨σ1, eσ1⟩ : ∃ z : pST, z = (pm_ui (filI σ.1 28 i (nI 0), σ.2).1 28 i (nI 0), (filI σ.1 28 i (nI 0), σ.2).2) := ⟨_, rfl⟩
      rw [← eσ1]
      refine pr_iinc (v := (nI (i + 1))) (L' := [(3, .inl (nI (i + 1))), (0, .inr (.inr 0)), (1, .inl (nI sz)), (2, .inl u)]) tX8_run_171 0 rfl (nI_1 _) (by decide) rfl ?_
      refine pr_goto (pc' := 159) tX8_run_174 rfl ?_
      refine pR_sub (L' := [(3, .inl (nI (i + 1))), (0, .inr (.inr 0)), (1, .inl (nI sz)), (2, .inl u)]) [0, 1, 2, 3] rfl ?_
      have e9 : σ1 = (filI σ.1 28 (i + 1) (nI 0), σ.2) := by rw [eσ1]; exact Prod.ext filI_s rfl
      rw [e9]
      exact ih (i + 1) (by omega)

def opM0 (σ : pST) : Nat → Nat → Int32 := pm_ui (pm_ui (pm_ui (pm_ui (pm_ui (pm_ui (pm_ui (pm_ui (pm_ui (pm_ui (σ.1) 0 39 (σ.1 0 1)) 0 40 (nI 0)) 0 41 (nI 0)) 0 42 (nI 0)) 0 43 (nI 0)) 0 44 (nI 0)) 0 47 (nI 0)) 0 22 (nI 0)) 0 37 (nI 0)) 0 38 (nI 0)
def opnM (σ : pST) : pST := (filI (zcM (clM (opM0 σ) 512) 16) 28 4 (nI 0), σ.2)