/-! ===== inOrder of the reference ===== -/
set_option maxRecDepth 100000 in
theorem p1_X8_inOrder {σ : pST} {g r : Nat → Int64} {k : Nat} {post : pRT → Prop} (K : ∀ f, (∀ l, l < 32 → f l = σ.2 1 l) → pR shM tX8_inOrder fX8_inOrder qX8_inOrder lX8_inOrder 10 3 post 38 [(1, .inl (nI k)), (0, .inr (.inr 0))] [] (σ.1, plJ σ.2 f g r)) : ∀ (m i : Nat) (f : Nat → Int64), i + m = 32 → (∀ l, l < i → f l = σ.2 1 l) → pR shM tX8_inOrder fX8_inOrder qX8_inOrder lX8_inOrder 10 3 post 14 [(2, .inl (nI i)), (1, .inl (nI k)), (0, .inr (.inr 0))] [] (σ.1, plJ σ.2 f g r) := by
  intro m
  induction m with
  | zero =>
    intro i f hi hv
    refine pr_iload_n tX8_inOrder_14 0 rfl ?_
    refine pr_bipush (v := nI 32) tX8_inOrder_15 rfl ?_
    refine pr_ic_ge (pc' := 38) tX8_inOrder_17 rfl (fun hc17 => ?_) (fun hc17 => ?_)
    · skip
      have hc17 : 32 ≤ i := (nI_leI (by omega) (by omega)).mp hc17
      refine pR_sub (L' := [(1, .inl (nI k)), (0, .inr (.inr 0))]) [1, 2] rfl ?_
      exact K f (fun l hl => hv l (by omega))
    · skip
      exact absurd ((nI_leI (by omega) (by omega)).mpr (by omega)) hc17
  | succ m ih =>
    intro i f hi hv
    refine pr_iload_n tX8_inOrder_14 0 rfl ?_
    refine pr_bipush (v := nI 32) tX8_inOrder_15 rfl ?_
    refine pr_ic_ge (pc' := 38) tX8_inOrder_17 rfl (fun hc17 => ?_) (fun hc17 => ?_)
    · skip
      exact absurd ((nI_leI (by omega) (by omega)).mp hc17) (by omega)
    · skip
      have hc17 : ¬ 32 ≤ i := fun z9 => hc17 ((nI_leI (by omega) (by omega)).mpr z9)
      refine pr_aload_n tX8_inOrder_20 2 rfl ?_
      refine pr_geta (j := 41) tX8_inOrder_21 rfl rfl rfl rfl ?_
      refine pr_iload_n tX8_inOrder_24 0 rfl ?_
      refine pr_aload_n tX8_inOrder_25 2 rfl ?_
      refine pr_geta (j := 1) tX8_inOrder_26 rfl rfl rfl rfl ?_
      refine pr_iload_n tX8_inOrder_29 0 rfl ?_
      refine pr_lal tX8_inOrder_30 i rfl rfl (by omega) (by decide) ?_
      refine pR_topl (y := σ.2 1 i) (congrFun (pl_o (J := σ.2) (f := f) (g := g) (r := r) (x := 1) (by decide)) i) ?_
      refine pr_las tX8_inOrder_31 i rfl rfl (by omega) (by decide) ?_
      obtain ⟨σ1, eσ1⟩ : ∃ z : pST, z = ((σ.1, plJ σ.2 f g r).1, pm_uj (σ.1, plJ σ.2 f g r).2 41 i (σ.2 1 i)) := ⟨_, rfl⟩
      rw [← eσ1]
      refine pr_iinc (v := (nI (i + 1))) (L' := [(2, .inl (nI (i + 1))), (1, .inl (nI k)), (0, .inr (.inr 0))]) tX8_inOrder_32 0 rfl (nI_1 _) (by decide) rfl ?_
      refine pr_goto (pc' := 14) tX8_inOrder_35 rfl ?_
      have e9 : σ1 = (σ.1, plJ σ.2 (fup f i (σ.2 1 i)) g r) := by rw [eσ1]; exact Prod.ext rfl (pl_1 (by omega))
      rw [e9]
      refine pR_sub (L' := [(2, .inl (nI (i + 1))), (1, .inl (nI k)), (0, .inr (.inr 0))]) [0, 1, 2] rfl ?_
      refine ih (i + 1) (fup f i (σ.2 1 i)) (by omega) (fun l hl => ?_)
      by_cases e : l = i
      · subst e; rw [fup_s]
      · rw [fup_n e]; exact hv l (by omega)

set_option maxRecDepth 100000 in
theorem p2_X8_inOrder {σ : pST} {f r : Nat → Int64} {k c : Nat} {post : pRT → Prop} (K : ∀ g, (∀ l, l < 32 → g l = f l) → pR shM tX8_inOrder fX8_inOrder qX8_inOrder lX8_inOrder 10 3 post 74 [(2, .inl (nI c)), (1, .inl (nI k)), (0, .inr (.inr 0))] [] (σ.1, plJ σ.2 f g r)) : ∀ (m i : Nat) (g : Nat → Int64), i + m = 32 → (∀ l, l < i → g l = f l) → pR shM tX8_inOrder fX8_inOrder qX8_inOrder lX8_inOrder 10 3 post 50 [(3, .inl (nI i)), (2, .inl (nI c)), (1, .inl (nI k)), (0, .inr (.inr 0))] [] (σ.1, plJ σ.2 f g r) := by
  intro m
  induction m with
  | zero =>
    intro i g hi hv
    refine pr_iload_n tX8_inOrder_50 0 rfl ?_
    refine pr_bipush (v := nI 32) tX8_inOrder_51 rfl ?_
    refine pr_ic_ge (pc' := 74) tX8_inOrder_53 rfl (fun hc53 => ?_) (fun hc53 => ?_)
    · skip
      have hc53 : 32 ≤ i := (nI_leI (by omega) (by omega)).mp hc53
      refine pR_sub (L' := [(2, .inl (nI c)), (1, .inl (nI k)), (0, .inr (.inr 0))]) [1, 2, 3] rfl ?_
      exact K g (fun l hl => hv l (by omega))
    · skip
      exact absurd ((nI_leI (by omega) (by omega)).mpr (by omega)) hc53
  | succ m ih =>
    intro i g hi hv
    refine pr_iload_n tX8_inOrder_50 0 rfl ?_
    refine pr_bipush (v := nI 32) tX8_inOrder_51 rfl ?_
    refine pr_ic_ge (pc' := 74) tX8_inOrder_53 rfl (fun hc53 => ?_) (fun hc53 => ?_)
    · skip
      exact absurd ((nI_leI (by omega) (by omega)).mp hc53) (by omega)
    · skip
      have hc53 : ¬ 32 ≤ i := fun z9 => hc53 ((nI_leI (by omega) (by omega)).mpr z9)
      refine pr_aload_n tX8_inOrder_56 3 rfl ?_
      refine pr_geta (j := 42) tX8_inOrder_57 rfl rfl rfl rfl ?_
      refine pr_iload_n tX8_inOrder_60 0 rfl ?_
      refine pr_aload_n tX8_inOrder_61 3 rfl ?_
      refine pr_geta (j := 41) tX8_inOrder_62 rfl rfl rfl rfl ?_
      refine pr_iload_n tX8_inOrder_65 0 rfl ?_
      refine pr_lal tX8_inOrder_66 i rfl rfl (by omega) (by decide) ?_
      refine pR_topl (y := f i) (pl_r1 (J := σ.2) (f := f) (g := g) (r := r) (by omega)) ?_
      refine pr_las tX8_inOrder_67 i rfl rfl (by omega) (by decide) ?_
      obtain ⟨σ1, eσ1⟩ : ∃ z : pST, z = ((σ.1, plJ σ.2 f g r).1, pm_uj (σ.1, plJ σ.2 f g r).2 42 i (f i)) := ⟨_, rfl⟩
      rw [← eσ1]
      refine pr_iinc (v := (nI (i + 1))) (L' := [(3, .inl (nI (i + 1))), (2, .inl (nI c)), (1, .inl (nI k)), (0, .inr (.inr 0))]) tX8_inOrder_68 0 rfl (nI_1 _) (by decide) rfl ?_
      refine pr_goto (pc' := 50) tX8_inOrder_71 rfl ?_
      have e9 : σ1 = (σ.1, plJ σ.2 f (fup g i (f i)) r) := by rw [eσ1]; exact Prod.ext rfl (pl_2 (by omega))
      rw [e9]
      refine pR_sub (L' := [(3, .inl (nI (i + 1))), (2, .inl (nI c)), (1, .inl (nI k)), (0, .inr (.inr 0))]) [0, 1, 2, 3] rfl ?_
      refine ih (i + 1) (fup g i (f i)) (by omega) (fun l hl => ?_)
      by_cases e : l = i
      · subst e; rw [fup_s]
      · rw [fup_n e]; exact hv l (by omega)

set_option maxRecDepth 100000 in
theorem p3_X8_inOrder {σ : pST} {f g : Nat → Int64} {k c : Nat} {post : pRT → Prop} (K : ∀ r, (∀ l, l < 4 → r l = 0) → pR shM tX8_inOrder fX8_inOrder qX8_inOrder lX8_inOrder 10 3 post 94 [(2, .inl (nI c)), (1, .inl (nI k)), (0, .inr (.inr 0))] [] (σ.1, plJ σ.2 f g r)) : ∀ (m i : Nat) (r : Nat → Int64), i + m = 4 → (∀ l, l < i → r l = 0) → pR shM tX8_inOrder fX8_inOrder qX8_inOrder lX8_inOrder 10 3 post 76 [(3, .inl (nI i)), (2, .inl (nI c)), (1, .inl (nI k)), (0, .inr (.inr 0))] [] (σ.1, plJ σ.2 f g r) := by
  intro m
  induction m with
  | zero =>
    intro i r hi hv
    refine pr_iload_n tX8_inOrder_76 0 rfl ?_
    refine pr_iconst (v := nI 4) tX8_inOrder_77 rfl ?_
    refine pr_ic_ge (pc' := 94) tX8_inOrder_78 rfl (fun hc78 => ?_) (fun hc78 => ?_)
    · skip
      have hc78 : 4 ≤ i := (nI_leI (by omega) (by omega)).mp hc78
      refine pR_sub (L' := [(2, .inl (nI c)), (1, .inl (nI k)), (0, .inr (.inr 0))]) [1, 2, 3] rfl ?_
      exact K r (fun l hl => hv l (by omega))
    · skip
      exact absurd ((nI_leI (by omega) (by omega)).mpr (by omega)) hc78
  | succ m ih =>
    intro i r hi hv
    refine pr_iload_n tX8_inOrder_76 0 rfl ?_
    refine pr_iconst (v := nI 4) tX8_inOrder_77 rfl ?_
    refine pr_ic_ge (pc' := 94) tX8_inOrder_78 rfl (fun hc78 => ?_) (fun hc78 => ?_)
    · skip
      exact absurd ((nI_leI (by omega) (by omega)).mp hc78) (by omega)
    · skip
      have hc78 : ¬ 4 ≤ i := fun z9 => hc78 ((nI_leI (by omega) (by omega)).mpr z9)
      refine pr_aload_n tX8_inOrder_81 3 rfl ?_
      refine pr_geta (j := 43) tX8_inOrder_82 rfl rfl rfl rfl ?_
      refine pr_iload_n tX8_inOrder_85 0 rfl ?_
      refine pr_lconst (v := 0) tX8_inOrder_86 rfl ?_
      refine pr_las tX8_inOrder_87 i rfl rfl (by omega) (by decide) ?_
      obtain ⟨σ1, eσ1⟩ : ∃ z : pST, z = ((σ.1, plJ σ.2 f g r).1, pm_uj (σ.1, plJ σ.2 f g r).2 43 i (0 : Int64)) := ⟨_, rfl⟩
      rw [← eσ1]
      refine pr_iinc (v := (nI (i + 1))) (L' := [(3, .inl (nI (i + 1))), (2, .inl (nI c)), (1, .inl (nI k)), (0, .inr (.inr 0))]) tX8_inOrder_88 0 rfl (nI_1 _) (by decide) rfl ?_
      refine pr_goto (pc' := 76) tX8_inOrder_91 rfl ?_
      have e9 : σ1 = (σ.1, plJ σ.2 f g (fup r i ((0 : Int64)))) := by rw [eσ1]; exact Prod.ext rfl (pl_3 (by omega))
      rw [e9]
      refine pR_sub (L' := [(3, .inl (nI (i + 1))), (2, .inl (nI c)), (1, .inl (nI k)), (0, .inr (.inr 0))]) [0, 1, 2, 3] rfl ?_
      refine ih (i + 1) (fup r i ((0 : Int64))) (by omega) (fun l hl => ?_)
      by_cases e : l = i
      · subst e; rw [fup_s]
      · rw [fup_n e]; exact hv l (by omega)

set_option maxRecDepth 100000 in
theorem p5_X8_inOrder {σ : pST} {g r : Nat → Int64} {k c : Nat} {post : pRT → Prop} (K : ∀ f, (∀ l, l < 32 → f l = g l) → pR shM tX8_inOrder fX8_inOrder qX8_inOrder lX8_inOrder 10 3 post 418 [(2, .inl (nI c)), (1, .inl (nI k)), (0, .inr (.inr 0))] [] (σ.1, plJ σ.2 f g r)) : ∀ (m i : Nat) (f : Nat → Int64), i + m = 32 → (∀ l, l < i → f l = g l) → pR shM tX8_inOrder fX8_inOrder qX8_inOrder lX8_inOrder 10 3 post 387 [(5, .inl (nI i)), (3, .inl (nI 0)), (2, .inl (nI c)), (1, .inl (nI k)), (0, .inr (.inr 0))] [] (σ.1, plJ σ.2 f g r) := by
  intro m
  induction m with
  | zero =>
    intro i f hi hv
    refine pr_iload tX8_inOrder_387 0 rfl ?_
    refine pr_bipush (v := nI 32) tX8_inOrder_389 rfl ?_
    refine pr_ic_ge (pc' := 418) tX8_inOrder_391 rfl (fun hc391 => ?_) (fun hc391 => ?_)
    · skip
      have hc391 : 32 ≤ i := (nI_leI (by omega) (by omega)).mp hc391
      refine pR_sub (L' := [(2, .inl (nI c)), (1, .inl (nI k)), (0, .inr (.inr 0))]) [2, 3, 4] rfl ?_
      exact K f (fun l hl => hv l (by omega))
    · skip
      exact absurd ((nI_leI (by omega) (by omega)).mpr (by omega)) hc391
  | succ m ih =>
    intro i f hi hv
    refine pr_iload tX8_inOrder_387 0 rfl ?_
    refine pr_bipush (v := nI 32) tX8_inOrder_389 rfl ?_
    refine pr_ic_ge (pc' := 418) tX8_inOrder_391 rfl (fun hc391 => ?_) (fun hc391 => ?_)
    · skip
      exact absurd ((nI_leI (by omega) (by omega)).mp hc391) (by omega)
    · skip
      have hc391 : ¬ 32 ≤ i := fun z9 => hc391 ((nI_leI (by omega) (by omega)).mpr z9)
      refine pr_iload_n tX8_inOrder_394 1 rfl ?_
      refine pr_if_ne (pc' := 418) tX8_inOrder_395 rfl (fun hc395 => ?_) (fun hc395 => ?_)
      · skip
        exact absurd hc395 (by decide)
      · skip
        refine pr_aload_n tX8_inOrder_398 4 rfl ?_
        refine pr_geta (j := 41) tX8_inOrder_399 rfl rfl rfl rfl ?_
        refine pr_iload tX8_inOrder_402 0 rfl ?_
        refine pr_aload_n tX8_inOrder_404 4 rfl ?_
        refine pr_geta (j := 42) tX8_inOrder_405 rfl rfl rfl rfl ?_
        refine pr_iload tX8_inOrder_408 0 rfl ?_
        refine pr_lal tX8_inOrder_410 i rfl rfl (by omega) (by decide) ?_
        refine pR_topl (y := g i) (pl_r2 (J := σ.2) (f := f) (g := g) (r := r) (by omega)) ?_
        refine pr_las tX8_inOrder_411 i rfl rfl (by omega) (by decide) ?_
        obtain ⟨σ1, eσ1⟩ : ∃ z : pST, z = ((σ.1, plJ σ.2 f g r).1, pm_uj (σ.1, plJ σ.2 f g r).2 41 i (g i)) := ⟨_, rfl⟩
        rw [← eσ1]
        refine pr_iinc (v := (nI (i + 1))) (L' := [(5, .inl (nI (i + 1))), (3, .inl (nI 0)), (2, .inl (nI c)), (1, .inl (nI k)), (0, .inr (.inr 0))]) tX8_inOrder_412 0 rfl (nI_1 _) (by decide) rfl ?_
        refine pr_goto (pc' := 387) tX8_inOrder_415 rfl ?_
        have e9 : σ1 = (σ.1, plJ σ.2 (fup f i (g i)) g r) := by rw [eσ1]; exact Prod.ext rfl (pl_1 (by omega))
        rw [e9]
        refine pR_sub (L' := [(5, .inl (nI (i + 1))), (3, .inl (nI 0)), (2, .inl (nI c)), (1, .inl (nI k)), (0, .inr (.inr 0))]) [0, 1, 2, 3, 4] rfl ?_
        refine ih (i + 1) (fup f i (g i)) (by omega) (fun l hl => ?_)
        by_cases e : l = i
        · subst e; rw [fup_s]
        · rw [fup_n e]; exact hv l (by omega)

set_option maxRecDepth 100000 in
theorem p6_X8_inOrder {σ : pST} {f g r : Nat → Int64} {k c : Nat} {post : pRT → Prop} (K : pR shM tX8_inOrder fX8_inOrder qX8_inOrder lX8_inOrder 10 3 post 418 [(2, .inl (nI c)), (1, .inl (nI k)), (0, .inr (.inr 0))] [] (σ.1, plJ σ.2 f g r)) : pR shM tX8_inOrder fX8_inOrder qX8_inOrder lX8_inOrder 10 3 post 387 [(5, .inl (nI 0)), (3, .inl (nI 1)), (2, .inl (nI c)), (1, .inl (nI k)), (0, .inr (.inr 0))] [] (σ.1, plJ σ.2 f g r) := by
  refine pr_iload tX8_inOrder_387 0 rfl ?_
  refine pr_bipush (v := nI 32) tX8_inOrder_389 rfl ?_
  refine pr_ic_ge (pc' := 418) tX8_inOrder_391 rfl (fun hc391 => ?_) (fun hc391 => ?_)
  · skip
    exact absurd hc391 (by decide)
  · skip
    refine pr_iload_n tX8_inOrder_394 1 rfl ?_
    refine pr_if_ne (pc' := 418) tX8_inOrder_395 rfl (fun hc395 => ?_) (fun hc395 => ?_)
    · skip
      refine pR_sub (L' := [(2, .inl (nI c)), (1, .inl (nI k)), (0, .inr (.inr 0))]) [2, 3, 4] rfl ?_
      exact K
    · skip
      exact absurd (by decide) hc395

set_option maxRecDepth 100000 in
theorem p4_X8_inOrder {σ : pST} {f : Nat → Int64} {B : BkS} {T : TbS} {c k : Nat} (hB : BkOK B) (hbk : RMbk σ B) (hc : c < B.n) (hT : nph T c) {post : pRT → Prop} : ∀ (m : Nat) (A : AtS) (g r : Nat → Int64), PIv (fun k => svT T k (wbT T k c)) g r A → AtOK c A → B.ac c ≤ A.p + m → (∀ (g r : Nat → Int64), PIv (fun k => svT T k (wbT T k c)) g r (runA B T c m A).1 → pR shM tX8_inOrder fX8_inOrder qX8_inOrder lX8_inOrder 10 3 post 384 [(3, .inl (nI (cond (runA B T c m A).1.fl 1 0))), (2, .inl (nI c)), (1, .inl (nI k)), (0, .inr (.inr 0))] [] (σ.1, plJ σ.2 f g r)) → pR shM tX8_inOrder fX8_inOrder qX8_inOrder lX8_inOrder 10 3 post 99 [(4, .inl (nI A.p)), (3, .inl (nI (cond A.fl 1 0))), (2, .inl (nI c)), (1, .inl (nI k)), (0, .inr (.inr 0))] [] (σ.1, plJ σ.2 f g r) := by
  have hn := hB.n
  have hc16 : c < 16 := Nat.lt_of_lt_of_le hc hn
  have hac := hB.ac c hc16
  intro m
  induction m with
  | zero =>
    intro A g r h hok hm K
    have hp24 := hok.p
    have ho : overA B c A := .inr hm
    by_cases hz : True
    · have eR : runA B T c 0 A = (A, 0) := rfl
      rw [eR] at K
      have z := K g r h
      cases hf : A.fl with
      | true =>
        rw [hf] at z
        show pR shM tX8_inOrder fX8_inOrder qX8_inOrder lX8_inOrder 10 3 post 99 [(4, .inl (nI A.p)), (3, .inl (nI 1)), (2, .inl (nI c)), (1, .inl (nI k)), (0, .inr (.inr 0))] [] (σ.1, plJ σ.2 f g r)
        refine pr_iload tX8_inOrder_99 0 rfl ?_
        refine pr_aload_n tX8_inOrder_101 4 rfl ?_
        refine pr_geta (j := 2) tX8_inOrder_102 rfl rfl rfl rfl ?_
        refine pr_iload_n tX8_inOrder_105 2 rfl ?_
        refine pr_ial tX8_inOrder_106 c rfl rfl (by omega) (by decide) ?_
        refine pR_topi (y := (nI (B.ac c))) (hbk.ac c hc16) ?_
        refine pr_ic_ge (pc' := 384) tX8_inOrder_107 rfl (fun hc107 => ?_) (fun hc107 => ?_)
        · skip
          have hc107 : (B.ac c) ≤ A.p := (nI_leI (by omega) (by omega)).mp hc107
          refine pR_sub (L' := [(3, .inl (nI 1)), (2, .inl (nI c)), (1, .inl (nI k)), (0, .inr (.inr 0))]) [1, 2, 3, 4] rfl ?_
          exact z
        · skip
          have hc107 : ¬ (B.ac c) ≤ A.p := fun z9 => hc107 ((nI_leI (by omega) (by omega)).mpr z9)
          refine pr_iload_n tX8_inOrder_110 1 rfl ?_
          refine pr_if_ne (pc' := 384) tX8_inOrder_111 rfl (fun hc111 => ?_) (fun hc111 => ?_)
          · skip
            refine pR_sub (L' := [(3, .inl (nI 1)), (2, .inl (nI c)), (1, .inl (nI k)), (0, .inr (.inr 0))]) [1, 2, 3, 4] rfl ?_
            exact z
          · skip
            exact absurd (by decide) hc111
      | false =>
        rw [hf] at z
        have hge : B.ac c ≤ A.p := ho.resolve_left (by rw [hf]; decide)
        show pR shM tX8_inOrder fX8_inOrder qX8_inOrder lX8_inOrder 10 3 post 99 [(4, .inl (nI A.p)), (3, .inl (nI 0)), (2, .inl (nI c)), (1, .inl (nI k)), (0, .inr (.inr 0))] [] (σ.1, plJ σ.2 f g r)
        refine pr_iload tX8_inOrder_99 0 rfl ?_
        refine pr_aload_n tX8_inOrder_101 4 rfl ?_
        refine pr_geta (j := 2) tX8_inOrder_102 rfl rfl rfl rfl ?_
        refine pr_iload_n tX8_inOrder_105 2 rfl ?_
        refine pr_ial tX8_inOrder_106 c rfl rfl (by omega) (by decide) ?_
        refine pR_topi (y := (nI (B.ac c))) (hbk.ac c hc16) ?_
        refine pr_ic_ge (pc' := 384) tX8_inOrder_107 rfl (fun hc107 => ?_) (fun hc107 => ?_)
        · skip
          have hc107 : (B.ac c) ≤ A.p := (nI_leI (by omega) (by omega)).mp hc107
          refine pR_sub (L' := [(3, .inl (nI 0)), (2, .inl (nI c)), (1, .inl (nI k)), (0, .inr (.inr 0))]) [1, 2, 3, 4] rfl ?_
          exact z
        · skip
          exact absurd ((nI_leI (by omega) (by omega)).mpr (by omega)) hc107
    · exact absurd trivial hz
  | succ m ih =>
    intro A g r h hok hm K
    have hp24 := hok.p
    by_cases ho : overA B c A
    · have eR : runA B T c (m + 1) A = (A, 0) := by unfold runA; rw [if_pos ho]
      rw [eR] at K
      have z := K g r h
      cases hf : A.fl with
      | true =>
        rw [hf] at z
        show pR shM tX8_inOrder fX8_inOrder qX8_inOrder lX8_inOrder 10 3 post 99 [(4, .inl (nI A.p)), (3, .inl (nI 1)), (2, .inl (nI c)), (1, .inl (nI k)), (0, .inr (.inr 0))] [] (σ.1, plJ σ.2 f g r)
        refine pr_iload tX8_inOrder_99 0 rfl ?_
        refine pr_aload_n tX8_inOrder_101 4 rfl ?_
        refine pr_geta (j := 2) tX8_inOrder_102 rfl rfl rfl rfl ?_
        refine pr_iload_n tX8_inOrder_105 2 rfl ?_
        refine pr_ial tX8_inOrder_106 c rfl rfl (by omega) (by decide) ?_
        refine pR_topi (y := (nI (B.ac c))) (hbk.ac c hc16) ?_
        refine pr_ic_ge (pc' := 384) tX8_inOrder_107 rfl (fun hc107 => ?_) (fun hc107 => ?_)
        · skip
          have hc107 : (B.ac c) ≤ A.p := (nI_leI (by omega) (by omega)).mp hc107
          refine pR_sub (L' := [(3, .inl (nI 1)), (2, .inl (nI c)), (1, .inl (nI k)), (0, .inr (.inr 0))]) [1, 2, 3, 4] rfl ?_
          exact z
        · skip
          have hc107 : ¬ (B.ac c) ≤ A.p := fun z9 => hc107 ((nI_leI (by omega) (by omega)).mpr z9)
          refine pr_iload_n tX8_inOrder_110 1 rfl ?_
          refine pr_if_ne (pc' := 384) tX8_inOrder_111 rfl (fun hc111 => ?_) (fun hc111 => ?_)
          · skip
            refine pR_sub (L' := [(3, .inl (nI 1)), (2, .inl (nI c)), (1, .inl (nI k)), (0, .inr (.inr 0))]) [1, 2, 3, 4] rfl ?_
            exact z
          · skip
            exact absurd (by decide) hc111
      | false =>
        rw [hf] at z
        have hge : B.ac c ≤ A.p := ho.resolve_left (by rw [hf]; decide)
        show pR shM tX8_inOrder fX8_inOrder qX8_inOrder lX8_inOrder 10 3 post 99 [(4, .inl (nI A.p)), (3, .inl (nI 0)), (2, .inl (nI c)), (1, .inl (nI k)), (0, .inr (.inr 0))] [] (σ.1, plJ σ.2 f g r)
        refine pr_iload tX8_inOrder_99 0 rfl ?_
        refine pr_aload_n tX8_inOrder_101 4 rfl ?_
        refine pr_geta (j := 2) tX8_inOrder_102 rfl rfl rfl rfl ?_
        refine pr_iload_n tX8_inOrder_105 2 rfl ?_
        refine pr_ial tX8_inOrder_106 c rfl rfl (by omega) (by decide) ?_
        refine pR_topi (y := (nI (B.ac c))) (hbk.ac c hc16) ?_
        refine pr_ic_ge (pc' := 384) tX8_inOrder_107 rfl (fun hc107 => ?_) (fun hc107 => ?_)
        · skip
          have hc107 : (B.ac c) ≤ A.p := (nI_leI (by omega) (by omega)).mp hc107
          refine pR_sub (L' := [(3, .inl (nI 0)), (2, .inl (nI c)), (1, .inl (nI k)), (0, .inr (.inr 0))]) [1, 2, 3, 4] rfl ?_
          exact z
        · skip
          exact absurd ((nI_leI (by omega) (by omega)).mpr (by omega)) hc107
    · have eR : runA B T c (m + 1) A = ((runA B T c m (doA B T c A).2).1, (runA B T c m (doA B T c A).2).2 + 1) := by
        have : runA B T c (m + 1) A = if overA B c A then (A, 0) else ((runA B T c m (doA B T c A).2).1, (runA B T c m (doA B T c A).2).2 + 1) := rfl
        rw [this, if_neg ho]
      rw [eR] at K
      have K2 : ∀ (g r : Nat → Int64), PIv (fun k => svT T k (wbT T k c)) g r (runA B T c m (doA B T c A).2).1 → pR shM tX8_inOrder fX8_inOrder qX8_inOrder lX8_inOrder 10 3 post 384 [(3, .inl (nI (cond (runA B T c m (doA B T c A).2).1.fl 1 0))), (2, .inl (nI c)), (1, .inl (nI k)), (0, .inr (.inr 0))] [] (σ.1, plJ σ.2 f g r) := K
      have hf : A.fl = false := by
        cases e : A.fl with
        | false => rfl
        | true => exact absurd (.inl e) ho
      have hlt : A.p < B.ac c := Nat.lt_of_not_le fun z => ho (.inr z)
      have hi : 12 * c + A.p < 192 := by clear h; omega
      have ei : c * 12 + A.p = 12 * c + A.p := by clear h; omega
      obtain ⟨kd1, kd2, kd3, kd4⟩ := hbk.kd _ hi
      obtain ⟨kk8, k1, k2, _⟩ := hB.kd _ hi
      have hok2 := doA_ok (T := T) hB hc16 hok ho
      have hpm : B.ac c ≤ (doA B T c A).2.p + m := by
        have q := doA_p (B := B) (T := T) (c := c) (A := A) (A' := (doA B T c A).2) (by rw [← doA_n (B := B) (A := A) hT])
        clear h
        omega
      rw [hf]
      show pR shM tX8_inOrder fX8_inOrder qX8_inOrder lX8_inOrder 10 3 post 99 [(4, .inl (nI A.p)), (3, .inl (nI 0)), (2, .inl (nI c)), (1, .inl (nI k)), (0, .inr (.inr 0))] [] (σ.1, plJ σ.2 f g r)
      have hcase : B.kd (12 * c + A.p) = 0 ∨ B.kd (12 * c + A.p) = 1 ∨ B.kd (12 * c + A.p) = 2 ∨ B.kd (12 * c + A.p) = 3 ∨ B.kd (12 * c + A.p) = 4 ∨ B.kd (12 * c + A.p) = 5 ∨ B.kd (12 * c + A.p) = 6 ∨ B.kd (12 * c + A.p) = 7 ∨ B.kd (12 * c + A.p) = 8 := by clear h; omega
      rcases hcase with hkd | hkd | hkd | hkd | hkd | hkd | hkd | hkd | hkd
      · have hk : B.kd (12 * c + A.p) = 0 := hkd
        obtain ⟨u1, u2, u3⟩ := pi_k0 hB hT hi ei h hf hk
        refine pr_iload tX8_inOrder_99 0 rfl ?_
        refine pr_aload_n tX8_inOrder_101 4 rfl ?_
        refine pr_geta (j := 2) tX8_inOrder_102 rfl rfl rfl rfl ?_
        refine pr_iload_n tX8_inOrder_105 2 rfl ?_
        refine pr_ial tX8_inOrder_106 c rfl rfl (by omega) (by decide) ?_
        refine pR_topi (y := (nI (B.ac c))) (hbk.ac c hc16) ?_
        refine pr_ic_ge (pc' := 384) tX8_inOrder_107 rfl (fun hc107 => ?_) (fun hc107 => ?_)
        · skip
          exact absurd ((nI_leI (by omega) (by omega)).mp hc107) (by omega)
        · skip
          have hc107 : ¬ (B.ac c) ≤ A.p := fun z9 => hc107 ((nI_leI (by omega) (by omega)).mpr z9)
          refine pr_iload_n tX8_inOrder_110 1 rfl ?_
          refine pr_if_ne (pc' := 384) tX8_inOrder_111 rfl (fun hc111 => ?_) (fun hc111 => ?_)
          · skip
            exact absurd hc111 (by decide)
          · skip
            refine pr_bipush (v := nI 12) tX8_inOrder_114 rfl ?_
            refine pr_iload_n tX8_inOrder_116 2 rfl ?_
            refine pr_imul (v := (nI (12 * c))) tX8_inOrder_117 (pk_mul _ _) ?_
            refine pr_iload tX8_inOrder_118 0 rfl ?_
            refine pr_iadd (v := (nI (12 * c + A.p))) tX8_inOrder_120 (nI_add _ _) ?_
            refine pr_istore (L' := [(5, .inl (nI (12 * c + A.p))), (4, .inl (nI A.p)), (3, .inl (nI 0)), (2, .inl (nI c)), (1, .inl (nI k)), (0, .inr (.inr 0))]) tX8_inOrder_121 (by decide) rfl ?_
            refine pr_aload_n tX8_inOrder_123 5 rfl ?_
            refine pr_geta (j := 4) tX8_inOrder_124 rfl rfl rfl rfl ?_
            refine pr_iload tX8_inOrder_127 0 rfl ?_
            refine pr_ial tX8_inOrder_129 (12 * c + A.p) rfl rfl (hi) (by decide) ?_
            refine pR_topi (y := (nI (B.lf (12 * c + A.p)))) (kd2) ?_
            refine pr_istore (L' := [(6, .inl (nI (B.lf (12 * c + A.p)))), (5, .inl (nI (12 * c + A.p))), (4, .inl (nI A.p)), (3, .inl (nI 0)), (2, .inl (nI c)), (1, .inl (nI k)), (0, .inr (.inr 0))]) tX8_inOrder_130 (by decide) rfl ?_
            refine pr_aload_n tX8_inOrder_132 6 rfl ?_
            refine pr_geta (j := 5) tX8_inOrder_133 rfl rfl rfl rfl ?_
            refine pr_iload tX8_inOrder_136 1 rfl ?_
            refine pr_ial tX8_inOrder_138 (12 * c + A.p) rfl rfl (hi) (by decide) ?_
            refine pR_topi (y := (nI (B.rt (12 * c + A.p)))) (kd3) ?_
            refine pr_istore (L' := [(7, .inl (nI (B.rt (12 * c + A.p)))), (6, .inl (nI (B.lf (12 * c + A.p)))), (5, .inl (nI (12 * c + A.p))), (4, .inl (nI A.p)), (3, .inl (nI 0)), (2, .inl (nI c)), (1, .inl (nI k)), (0, .inr (.inr 0))]) tX8_inOrder_139 (by decide) rfl ?_
            refine pr_aload_n tX8_inOrder_141 7 rfl ?_
            refine pr_geta (j := 3) tX8_inOrder_142 rfl rfl rfl rfl ?_
            refine pr_iload tX8_inOrder_145 2 rfl ?_
            refine pr_ial tX8_inOrder_147 (12 * c + A.p) rfl rfl (hi) (by decide) ?_
            refine pR_topi (y := (nI 0)) (kd1.trans (by rw [hk])) ?_
            refine pr_istore (L' := [(8, .inl (nI 0)), (7, .inl (nI (B.rt (12 * c + A.p)))), (6, .inl (nI (B.lf (12 * c + A.p)))), (5, .inl (nI (12 * c + A.p))), (4, .inl (nI A.p)), (3, .inl (nI 0)), (2, .inl (nI c)), (1, .inl (nI k)), (0, .inr (.inr 0))]) tX8_inOrder_148 (by decide) rfl ?_
            refine pr_aload_n tX8_inOrder_150 8 rfl ?_
            refine pr_geta (j := 6) tX8_inOrder_151 rfl rfl rfl rfl ?_
            refine pr_iload tX8_inOrder_154 3 rfl ?_
            refine pr_lal tX8_inOrder_156 (12 * c + A.p) rfl rfl (hi) (by decide) ?_
            refine pR_topl (y := B.vl (12 * c + A.p)) ((congrFun (pl_o (J := σ.2) (f := f) (g := g) (r := r) (x := 6) (by decide)) _).trans kd4) ?_
            refine pr_aload_n tX8_inOrder_157 8 rfl ?_
            refine pr_geta (j := 43) tX8_inOrder_158 rfl rfl rfl rfl ?_
            refine pr_iload tX8_inOrder_161 1 rfl ?_
            refine pr_lal tX8_inOrder_163 (B.rt (12 * c + A.p)) rfl rfl (k2) (by decide) ?_
            refine pR_topl (y := r (B.rt (12 * c + A.p))) (pl_r3 (J := σ.2) (f := f) (g := g) (r := r) k2) ?_
            refine pr_ladd (v := ((B.vl (12 * c + A.p)) + (r (B.rt (12 * c + A.p))))) tX8_inOrder_164 (rfl) ?_
            refine pr_callS tX8_inOrder_165 rfl ⟨Nat.le_of_ble_eq_true rfl, Nat.le_of_ble_eq_true rfl, rfl⟩ ((ev_X8_leafOf _ _).trans (by rw [leafM])) ?_
            refine pR_eq (st' := [.inl (nI (lfA (B.vl (12 * c + A.p) + r (B.rt (12 * c + A.p)))))]) rfl rfl ?_
            refine pr_istore (L' := [(9, .inl (nI (lfA (B.vl (12 * c + A.p) + r (B.rt (12 * c + A.p)))))), (8, .inl (nI 0)), (7, .inl (nI (B.rt (12 * c + A.p)))), (6, .inl (nI (B.lf (12 * c + A.p)))), (5, .inl (nI (12 * c + A.p))), (4, .inl (nI A.p)), (3, .inl (nI 0)), (2, .inl (nI c)), (1, .inl (nI k)), (0, .inr (.inr 0))]) tX8_inOrder_168 (by decide) rfl ?_
            refine pr_iload tX8_inOrder_170 1 rfl ?_
            refine pr_if_ne (pc' := 192) tX8_inOrder_172 rfl (fun hc172 => ?_) (fun hc172 => ?_)
            · skip
              exact absurd hc172 (by decide)
            · skip
              refine pr_aload_n tX8_inOrder_175 9 rfl ?_
              refine pr_geta (j := 43) tX8_inOrder_176 rfl rfl rfl rfl ?_
              refine pr_iload tX8_inOrder_179 3 rfl ?_
              refine pr_aload_n tX8_inOrder_181 9 rfl ?_
              refine pr_geta (j := 6) tX8_inOrder_182 rfl rfl rfl rfl ?_
              refine pr_iload tX8_inOrder_185 4 rfl ?_
              refine pr_lal tX8_inOrder_187 (12 * c + A.p) rfl rfl (hi) (by decide) ?_
              refine pR_topl (y := B.vl (12 * c + A.p)) ((congrFun (pl_o (J := σ.2) (f := f) (g := g) (r := r) (x := 6) (by decide)) _).trans kd4) ?_
              refine pr_las tX8_inOrder_188 (B.lf (12 * c + A.p)) rfl rfl (k1) (by decide) ?_
              obtain ⟨σ1, eσ1⟩ : ∃ z : pST, z = ((σ.1, plJ σ.2 f g r).1, pm_uj (σ.1, plJ σ.2 f g r).2 43 (B.lf (12 * c + A.p)) (B.vl (12 * c + A.p))) := ⟨_, rfl⟩
              rw [← eσ1]
              refine pr_goto (pc' := 378) tX8_inOrder_189 rfl ?_
              refine pr_iinc (v := (nI (A.p + 1))) (L' := [(4, .inl (nI (A.p + 1))), (9, .inl (nI (lfA (B.vl (12 * c + A.p) + r (B.rt (12 * c + A.p)))))), (8, .inl (nI 0)), (7, .inl (nI (B.rt (12 * c + A.p)))), (6, .inl (nI (B.lf (12 * c + A.p)))), (5, .inl (nI (12 * c + A.p))), (3, .inl (nI 0)), (2, .inl (nI c)), (1, .inl (nI k)), (0, .inr (.inr 0))]) tX8_inOrder_378 5 rfl (nI_1 _) (by decide) rfl ?_
              refine pr_goto (pc' := 99) tX8_inOrder_381 rfl ?_
              have e9 : σ1 = (σ.1, plJ σ.2 f g (fup r (B.lf (12 * c + A.p)) (B.vl (12 * c + A.p)))) := by rw [eσ1]; exact Prod.ext rfl (pl_3 k1)
              rw [e9]
              refine pR_sub (L' := [(4, .inl (nI (A.p + 1))), (3, .inl (nI 0)), (2, .inl (nI c)), (1, .inl (nI k)), (0, .inr (.inr 0))]) [0, 6, 7, 8, 9] rfl ?_
              have z := ih (doA B T c A).2 g (fup r (B.lf (12 * c + A.p)) (B.vl (12 * c + A.p))) u1 hok2 hpm K2
              rw [u2, u3] at z
              exact z
      · have hk : B.kd (12 * c + A.p) = 1 := hkd
        obtain ⟨u1, u2, u3⟩ := pi_k1 hB hT hi ei h hf hk
        refine pr_iload tX8_inOrder_99 0 rfl ?_
        refine pr_aload_n tX8_inOrder_101 4 rfl ?_
        refine pr_geta (j := 2) tX8_inOrder_102 rfl rfl rfl rfl ?_
        refine pr_iload_n tX8_inOrder_105 2 rfl ?_
        refine pr_ial tX8_inOrder_106 c rfl rfl (by omega) (by decide) ?_
        refine pR_topi (y := (nI (B.ac c))) (hbk.ac c hc16) ?_
        refine pr_ic_ge (pc' := 384) tX8_inOrder_107 rfl (fun hc107 => ?_) (fun hc107 => ?_)
        · skip
          exact absurd ((nI_leI (by omega) (by omega)).mp hc107) (by omega)
        · skip
          have hc107 : ¬ (B.ac c) ≤ A.p := fun z9 => hc107 ((nI_leI (by omega) (by omega)).mpr z9)
          refine pr_iload_n tX8_inOrder_110 1 rfl ?_
          refine pr_if_ne (pc' := 384) tX8_inOrder_111 rfl (fun hc111 => ?_) (fun hc111 => ?_)
          · skip
            exact absurd hc111 (by decide)
          · skip
            refine pr_bipush (v := nI 12) tX8_inOrder_114 rfl ?_
            refine pr_iload_n tX8_inOrder_116 2 rfl ?_
            refine pr_imul (v := (nI (12 * c))) tX8_inOrder_117 (pk_mul _ _) ?_
            refine pr_iload tX8_inOrder_118 0 rfl ?_
            refine pr_iadd (v := (nI (12 * c + A.p))) tX8_inOrder_120 (nI_add _ _) ?_
            refine pr_istore (L' := [(5, .inl (nI (12 * c + A.p))), (4, .inl (nI A.p)), (3, .inl (nI 0)), (2, .inl (nI c)), (1, .inl (nI k)), (0, .inr (.inr 0))]) tX8_inOrder_121 (by decide) rfl ?_
            refine pr_aload_n tX8_inOrder_123 5 rfl ?_
            refine pr_geta (j := 4) tX8_inOrder_124 rfl rfl rfl rfl ?_
            refine pr_iload tX8_inOrder_127 0 rfl ?_
            refine pr_ial tX8_inOrder_129 (12 * c + A.p) rfl rfl (hi) (by decide) ?_
            refine pR_topi (y := (nI (B.lf (12 * c + A.p)))) (kd2) ?_
            refine pr_istore (L' := [(6, .inl (nI (B.lf (12 * c + A.p)))), (5, .inl (nI (12 * c + A.p))), (4, .inl (nI A.p)), (3, .inl (nI 0)), (2, .inl (nI c)), (1, .inl (nI k)), (0, .inr (.inr 0))]) tX8_inOrder_130 (by decide) rfl ?_
            refine pr_aload_n tX8_inOrder_132 6 rfl ?_
            refine pr_geta (j := 5) tX8_inOrder_133 rfl rfl rfl rfl ?_
            refine pr_iload tX8_inOrder_136 1 rfl ?_
            refine pr_ial tX8_inOrder_138 (12 * c + A.p) rfl rfl (hi) (by decide) ?_
            refine pR_topi (y := (nI (B.rt (12 * c + A.p)))) (kd3) ?_
            refine pr_istore (L' := [(7, .inl (nI (B.rt (12 * c + A.p)))), (6, .inl (nI (B.lf (12 * c + A.p)))), (5, .inl (nI (12 * c + A.p))), (4, .inl (nI A.p)), (3, .inl (nI 0)), (2, .inl (nI c)), (1, .inl (nI k)), (0, .inr (.inr 0))]) tX8_inOrder_139 (by decide) rfl ?_
            refine pr_aload_n tX8_inOrder_141 7 rfl ?_
            refine pr_geta (j := 3) tX8_inOrder_142 rfl rfl rfl rfl ?_
            refine pr_iload tX8_inOrder_145 2 rfl ?_
            refine pr_ial tX8_inOrder_147 (12 * c + A.p) rfl rfl (hi) (by decide) ?_
            refine pR_topi (y := (nI 1)) (kd1.trans (by rw [hk])) ?_
            refine pr_istore (L' := [(8, .inl (nI 1)), (7, .inl (nI (B.rt (12 * c + A.p)))), (6, .inl (nI (B.lf (12 * c + A.p)))), (5, .inl (nI (12 * c + A.p))), (4, .inl (nI A.p)), (3, .inl (nI 0)), (2, .inl (nI c)), (1, .inl (nI k)), (0, .inr (.inr 0))]) tX8_inOrder_148 (by decide) rfl ?_
            refine pr_aload_n tX8_inOrder_150 8 rfl ?_
            refine pr_geta (j := 6) tX8_inOrder_151 rfl rfl rfl rfl ?_
            refine pr_iload tX8_inOrder_154 3 rfl ?_
            refine pr_lal tX8_inOrder_156 (12 * c + A.p) rfl rfl (hi) (by decide) ?_
            refine pR_topl (y := B.vl (12 * c + A.p)) ((congrFun (pl_o (J := σ.2) (f := f) (g := g) (r := r) (x := 6) (by decide)) _).trans kd4) ?_
            refine pr_aload_n tX8_inOrder_157 8 rfl ?_
            refine pr_geta (j := 43) tX8_inOrder_158 rfl rfl rfl rfl ?_
            refine pr_iload tX8_inOrder_161 1 rfl ?_
            refine pr_lal tX8_inOrder_163 (B.rt (12 * c + A.p)) rfl rfl (k2) (by decide) ?_
            refine pR_topl (y := r (B.rt (12 * c + A.p))) (pl_r3 (J := σ.2) (f := f) (g := g) (r := r) k2) ?_
            refine pr_ladd (v := ((B.vl (12 * c + A.p)) + (r (B.rt (12 * c + A.p))))) tX8_inOrder_164 (rfl) ?_
            refine pr_callS tX8_inOrder_165 rfl ⟨Nat.le_of_ble_eq_true rfl, Nat.le_of_ble_eq_true rfl, rfl⟩ ((ev_X8_leafOf _ _).trans (by rw [leafM])) ?_
            refine pR_eq (st' := [.inl (nI (lfA (B.vl (12 * c + A.p) + r (B.rt (12 * c + A.p)))))]) rfl rfl ?_
            refine pr_istore (L' := [(9, .inl (nI (lfA (B.vl (12 * c + A.p) + r (B.rt (12 * c + A.p)))))), (8, .inl (nI 1)), (7, .inl (nI (B.rt (12 * c + A.p)))), (6, .inl (nI (B.lf (12 * c + A.p)))), (5, .inl (nI (12 * c + A.p))), (4, .inl (nI A.p)), (3, .inl (nI 0)), (2, .inl (nI c)), (1, .inl (nI k)), (0, .inr (.inr 0))]) tX8_inOrder_168 (by decide) rfl ?_
            refine pr_iload tX8_inOrder_170 1 rfl ?_
            refine pr_if_ne (pc' := 192) tX8_inOrder_172 rfl (fun hc172 => ?_) (fun hc172 => ?_)
            · skip
              refine pr_iload tX8_inOrder_192 1 rfl ?_
              refine pr_iconst (v := nI 1) tX8_inOrder_194 rfl ?_
              refine pr_ic_ne (pc' := 215) tX8_inOrder_195 rfl (fun hc195 => ?_) (fun hc195 => ?_)
              · skip
                exact absurd hc195 (by decide)
              · skip
                refine pr_aload_n tX8_inOrder_198 9 rfl ?_
                refine pr_geta (j := 43) tX8_inOrder_199 rfl rfl rfl rfl ?_
                refine pr_iload tX8_inOrder_202 3 rfl ?_
                refine pr_aload_n tX8_inOrder_204 9 rfl ?_
                refine pr_geta (j := 42) tX8_inOrder_205 rfl rfl rfl rfl ?_
                refine pr_iload tX8_inOrder_208 0 rfl ?_
                refine pr_lal tX8_inOrder_210 (lfA (B.vl (12 * c + A.p) + r (B.rt (12 * c + A.p)))) rfl rfl (lfA_l _) (by decide) ?_
                refine pR_topl (y := g (lfA (B.vl (12 * c + A.p) + r (B.rt (12 * c + A.p))))) (pl_r2 (J := σ.2) (f := f) (g := g) (r := r) (lfA_l _)) ?_
                refine pr_las tX8_inOrder_211 (B.lf (12 * c + A.p)) rfl rfl (k1) (by decide) ?_
                obtain ⟨σ1, eσ1⟩ : ∃ z : pST, z = ((σ.1, plJ σ.2 f g r).1, pm_uj (σ.1, plJ σ.2 f g r).2 43 (B.lf (12 * c + A.p)) (g (lfA (B.vl (12 * c + A.p) + r (B.rt (12 * c + A.p)))))) := ⟨_, rfl⟩
                rw [← eσ1]
                refine pr_goto (pc' := 378) tX8_inOrder_212 rfl ?_
                refine pr_iinc (v := (nI (A.p + 1))) (L' := [(4, .inl (nI (A.p + 1))), (9, .inl (nI (lfA (B.vl (12 * c + A.p) + r (B.rt (12 * c + A.p)))))), (8, .inl (nI 1)), (7, .inl (nI (B.rt (12 * c + A.p)))), (6, .inl (nI (B.lf (12 * c + A.p)))), (5, .inl (nI (12 * c + A.p))), (3, .inl (nI 0)), (2, .inl (nI c)), (1, .inl (nI k)), (0, .inr (.inr 0))]) tX8_inOrder_378 5 rfl (nI_1 _) (by decide) rfl ?_
                refine pr_goto (pc' := 99) tX8_inOrder_381 rfl ?_
                have e9 : σ1 = (σ.1, plJ σ.2 f g (fup r (B.lf (12 * c + A.p)) (g (lfA (B.vl (12 * c + A.p) + r (B.rt (12 * c + A.p))))))) := by rw [eσ1]; exact Prod.ext rfl (pl_3 k1)
                rw [e9]
                refine pR_sub (L' := [(4, .inl (nI (A.p + 1))), (3, .inl (nI 0)), (2, .inl (nI c)), (1, .inl (nI k)), (0, .inr (.inr 0))]) [0, 6, 7, 8, 9] rfl ?_
                have z := ih (doA B T c A).2 g (fup r (B.lf (12 * c + A.p)) (g (lfA (B.vl (12 * c + A.p) + r (B.rt (12 * c + A.p)))))) u1 hok2 hpm K2
                rw [u2, u3] at z
                exact z
            · skip
              exact absurd (by decide) hc172
      · have hk : B.kd (12 * c + A.p) = 2 := hkd
        obtain ⟨u1, u2, u3⟩ := pi_k2 hB hT hi ei h hf hk
        refine pr_iload tX8_inOrder_99 0 rfl ?_
        refine pr_aload_n tX8_inOrder_101 4 rfl ?_
        refine pr_geta (j := 2) tX8_inOrder_102 rfl rfl rfl rfl ?_
        refine pr_iload_n tX8_inOrder_105 2 rfl ?_
        refine pr_ial tX8_inOrder_106 c rfl rfl (by omega) (by decide) ?_
        refine pR_topi (y := (nI (B.ac c))) (hbk.ac c hc16) ?_
        refine pr_ic_ge (pc' := 384) tX8_inOrder_107 rfl (fun hc107 => ?_) (fun hc107 => ?_)
        · skip
          exact absurd ((nI_leI (by omega) (by omega)).mp hc107) (by omega)
        · skip
          have hc107 : ¬ (B.ac c) ≤ A.p := fun z9 => hc107 ((nI_leI (by omega) (by omega)).mpr z9)
          refine pr_iload_n tX8_inOrder_110 1 rfl ?_
          refine pr_if_ne (pc' := 384) tX8_inOrder_111 rfl (fun hc111 => ?_) (fun hc111 => ?_)
          · skip
            exact absurd hc111 (by decide)
          · skip
            refine pr_bipush (v := nI 12) tX8_inOrder_114 rfl ?_
            refine pr_iload_n tX8_inOrder_116 2 rfl ?_
            refine pr_imul (v := (nI (12 * c))) tX8_inOrder_117 (pk_mul _ _) ?_
            refine pr_iload tX8_inOrder_118 0 rfl ?_
            refine pr_iadd (v := (nI (12 * c + A.p))) tX8_inOrder_120 (nI_add _ _) ?_
            refine pr_istore (L' := [(5, .inl (nI (12 * c + A.p))), (4, .inl (nI A.p)), (3, .inl (nI 0)), (2, .inl (nI c)), (1, .inl (nI k)), (0, .inr (.inr 0))]) tX8_inOrder_121 (by decide) rfl ?_
            refine pr_aload_n tX8_inOrder_123 5 rfl ?_
            refine pr_geta (j := 4) tX8_inOrder_124 rfl rfl rfl rfl ?_
            refine pr_iload tX8_inOrder_127 0 rfl ?_
            refine pr_ial tX8_inOrder_129 (12 * c + A.p) rfl rfl (hi) (by decide) ?_
            refine pR_topi (y := (nI (B.lf (12 * c + A.p)))) (kd2) ?_
            refine pr_istore (L' := [(6, .inl (nI (B.lf (12 * c + A.p)))), (5, .inl (nI (12 * c + A.p))), (4, .inl (nI A.p)), (3, .inl (nI 0)), (2, .inl (nI c)), (1, .inl (nI k)), (0, .inr (.inr 0))]) tX8_inOrder_130 (by decide) rfl ?_
            refine pr_aload_n tX8_inOrder_132 6 rfl ?_
            refine pr_geta (j := 5) tX8_inOrder_133 rfl rfl rfl rfl ?_
            refine pr_iload tX8_inOrder_136 1 rfl ?_
            refine pr_ial tX8_inOrder_138 (12 * c + A.p) rfl rfl (hi) (by decide) ?_
            refine pR_topi (y := (nI (B.rt (12 * c + A.p)))) (kd3) ?_
            refine pr_istore (L' := [(7, .inl (nI (B.rt (12 * c + A.p)))), (6, .inl (nI (B.lf (12 * c + A.p)))), (5, .inl (nI (12 * c + A.p))), (4, .inl (nI A.p)), (3, .inl (nI 0)), (2, .inl (nI c)), (1, .inl (nI k)), (0, .inr (.inr 0))]) tX8_inOrder_139 (by decide) rfl ?_
            refine pr_aload_n tX8_inOrder_141 7 rfl ?_
            refine pr_geta (j := 3) tX8_inOrder_142 rfl rfl rfl rfl ?_
            refine pr_iload tX8_inOrder_145 2 rfl ?_
            refine pr_ial tX8_inOrder_147 (12 * c + A.p) rfl rfl (hi) (by decide) ?_
            refine pR_topi (y := (nI 2)) (kd1.trans (by rw [hk])) ?_
            refine pr_istore (L' := [(8, .inl (nI 2)), (7, .inl (nI (B.rt (12 * c + A.p)))), (6, .inl (nI (B.lf (12 * c + A.p)))), (5, .inl (nI (12 * c + A.p))), (4, .inl (nI A.p)), (3, .inl (nI 0)), (2, .inl (nI c)), (1, .inl (nI k)), (0, .inr (.inr 0))]) tX8_inOrder_148 (by decide) rfl ?_
            refine pr_aload_n tX8_inOrder_150 8 rfl ?_
            refine pr_geta (j := 6) tX8_inOrder_151 rfl rfl rfl rfl ?_
            refine pr_iload tX8_inOrder_154 3 rfl ?_
            refine pr_lal tX8_inOrder_156 (12 * c + A.p) rfl rfl (hi) (by decide) ?_
            refine pR_topl (y := B.vl (12 * c + A.p)) ((congrFun (pl_o (J := σ.2) (f := f) (g := g) (r := r) (x := 6) (by decide)) _).trans kd4) ?_
            refine pr_aload_n tX8_inOrder_157 8 rfl ?_
            refine pr_geta (j := 43) tX8_inOrder_158 rfl rfl rfl rfl ?_
            refine pr_iload tX8_inOrder_161 1 rfl ?_
            refine pr_lal tX8_inOrder_163 (B.rt (12 * c + A.p)) rfl rfl (k2) (by decide) ?_
            refine pR_topl (y := r (B.rt (12 * c + A.p))) (pl_r3 (J := σ.2) (f := f) (g := g) (r := r) k2) ?_
            refine pr_ladd (v := ((B.vl (12 * c + A.p)) + (r (B.rt (12 * c + A.p))))) tX8_inOrder_164 (rfl) ?_
            refine pr_callS tX8_inOrder_165 rfl ⟨Nat.le_of_ble_eq_true rfl, Nat.le_of_ble_eq_true rfl, rfl⟩ ((ev_X8_leafOf _ _).trans (by rw [leafM])) ?_
            refine pR_eq (st' := [.inl (nI (lfA (B.vl (12 * c + A.p) + r (B.rt (12 * c + A.p)))))]) rfl rfl ?_
            refine pr_istore (L' := [(9, .inl (nI (lfA (B.vl (12 * c + A.p) + r (B.rt (12 * c + A.p)))))), (8, .inl (nI 2)), (7, .inl (nI (B.rt (12 * c + A.p)))), (6, .inl (nI (B.lf (12 * c + A.p)))), (5, .inl (nI (12 * c + A.p))), (4, .inl (nI A.p)), (3, .inl (nI 0)), (2, .inl (nI c)), (1, .inl (nI k)), (0, .inr (.inr 0))]) tX8_inOrder_168 (by decide) rfl ?_
            refine pr_iload tX8_inOrder_170 1 rfl ?_
            refine pr_if_ne (pc' := 192) tX8_inOrder_172 rfl (fun hc172 => ?_) (fun hc172 => ?_)
            · skip
              refine pr_iload tX8_inOrder_192 1 rfl ?_
              refine pr_iconst (v := nI 1) tX8_inOrder_194 rfl ?_
              refine pr_ic_ne (pc' := 215) tX8_inOrder_195 rfl (fun hc195 => ?_) (fun hc195 => ?_)
              · skip
                refine pr_iload tX8_inOrder_215 1 rfl ?_
                refine pr_iconst (v := nI 2) tX8_inOrder_217 rfl ?_
                refine pr_ic_ne (pc' := 238) tX8_inOrder_218 rfl (fun hc218 => ?_) (fun hc218 => ?_)
                · skip
                  exact absurd hc218 (by decide)
                · skip
                  refine pr_aload_n tX8_inOrder_221 9 rfl ?_
                  refine pr_geta (j := 42) tX8_inOrder_222 rfl rfl rfl rfl ?_
                  refine pr_iload tX8_inOrder_225 0 rfl ?_
                  refine pr_aload_n tX8_inOrder_227 9 rfl ?_
                  refine pr_geta (j := 43) tX8_inOrder_228 rfl rfl rfl rfl ?_
                  refine pr_iload tX8_inOrder_231 3 rfl ?_
                  refine pr_lal tX8_inOrder_233 (B.lf (12 * c + A.p)) rfl rfl (k1) (by decide) ?_
                  refine pR_topl (y := r (B.lf (12 * c + A.p))) (pl_r3 (J := σ.2) (f := f) (g := g) (r := r) k1) ?_
                  refine pr_las tX8_inOrder_234 (lfA (B.vl (12 * c + A.p) + r (B.rt (12 * c + A.p)))) rfl rfl (lfA_l _) (by decide) ?_
                  obtain ⟨σ1, eσ1⟩ : ∃ z : pST, z = ((σ.1, plJ σ.2 f g r).1, pm_uj (σ.1, plJ σ.2 f g r).2 42 (lfA (B.vl (12 * c + A.p) + r (B.rt (12 * c + A.p)))) (r (B.lf (12 * c + A.p)))) := ⟨_, rfl⟩
                  rw [← eσ1]
                  refine pr_goto (pc' := 378) tX8_inOrder_235 rfl ?_
                  refine pr_iinc (v := (nI (A.p + 1))) (L' := [(4, .inl (nI (A.p + 1))), (9, .inl (nI (lfA (B.vl (12 * c + A.p) + r (B.rt (12 * c + A.p)))))), (8, .inl (nI 2)), (7, .inl (nI (B.rt (12 * c + A.p)))), (6, .inl (nI (B.lf (12 * c + A.p)))), (5, .inl (nI (12 * c + A.p))), (3, .inl (nI 0)), (2, .inl (nI c)), (1, .inl (nI k)), (0, .inr (.inr 0))]) tX8_inOrder_378 5 rfl (nI_1 _) (by decide) rfl ?_
                  refine pr_goto (pc' := 99) tX8_inOrder_381 rfl ?_
                  have e9 : σ1 = (σ.1, plJ σ.2 f (fup g (lfA (B.vl (12 * c + A.p) + r (B.rt (12 * c + A.p)))) (r (B.lf (12 * c + A.p)))) r) := by rw [eσ1]; exact Prod.ext rfl (pl_2 (lfA_l _))
                  rw [e9]
                  refine pR_sub (L' := [(4, .inl (nI (A.p + 1))), (3, .inl (nI 0)), (2, .inl (nI c)), (1, .inl (nI k)), (0, .inr (.inr 0))]) [0, 6, 7, 8, 9] rfl ?_
                  have z := ih (doA B T c A).2 (fup g (lfA (B.vl (12 * c + A.p) + r (B.rt (12 * c + A.p)))) (r (B.lf (12 * c + A.p)))) r u1 hok2 hpm K2
                  rw [u2, u3] at z
                  exact z
              · skip
                exact absurd (by decide) hc195
            · skip
              exact absurd (by decide) hc172
      · have hk : B.kd (12 * c + A.p) = 3 := hkd
        obtain ⟨u1, u2, u3⟩ := pi_k3 hB hT hi ei h hf hk
        refine pr_iload tX8_inOrder_99 0 rfl ?_
        refine pr_aload_n tX8_inOrder_101 4 rfl ?_
        refine pr_geta (j := 2) tX8_inOrder_102 rfl rfl rfl rfl ?_
        refine pr_iload_n tX8_inOrder_105 2 rfl ?_
        refine pr_ial tX8_inOrder_106 c rfl rfl (by omega) (by decide) ?_
        refine pR_topi (y := (nI (B.ac c))) (hbk.ac c hc16) ?_
        refine pr_ic_ge (pc' := 384) tX8_inOrder_107 rfl (fun hc107 => ?_) (fun hc107 => ?_)
        · skip
          exact absurd ((nI_leI (by omega) (by omega)).mp hc107) (by omega)
        · skip
          have hc107 : ¬ (B.ac c) ≤ A.p := fun z9 => hc107 ((nI_leI (by omega) (by omega)).mpr z9)
          refine pr_iload_n tX8_inOrder_110 1 rfl ?_
          refine pr_if_ne (pc' := 384) tX8_inOrder_111 rfl (fun hc111 => ?_) (fun hc111 => ?_)
          · skip
            exact absurd hc111 (by decide)
          · skip
            refine pr_bipush (v := nI 12) tX8_inOrder_114 rfl ?_
            refine pr_iload_n tX8_inOrder_116 2 rfl ?_
            refine pr_imul (v := (nI (12 * c))) tX8_inOrder_117 (pk_mul _ _) ?_
            refine pr_iload tX8_inOrder_118 0 rfl ?_
            refine pr_iadd (v := (nI (12 * c + A.p))) tX8_inOrder_120 (nI_add _ _) ?_
            refine pr_istore (L' := [(5, .inl (nI (12 * c + A.p))), (4, .inl (nI A.p)), (3, .inl (nI 0)), (2, .inl (nI c)), (1, .inl (nI k)), (0, .inr (.inr 0))]) tX8_inOrder_121 (by decide) rfl ?_
            refine pr_aload_n tX8_inOrder_123 5 rfl ?_
            refine pr_geta (j := 4) tX8_inOrder_124 rfl rfl rfl rfl ?_
            refine pr_iload tX8_inOrder_127 0 rfl ?_
            refine pr_ial tX8_inOrder_129 (12 * c + A.p) rfl rfl (hi) (by decide) ?_
            refine pR_topi (y := (nI (B.lf (12 * c + A.p)))) (kd2) ?_
            refine pr_istore (L' := [(6, .inl (nI (B.lf (12 * c + A.p)))), (5, .inl (nI (12 * c + A.p))), (4, .inl (nI A.p)), (3, .inl (nI 0)), (2, .inl (nI c)), (1, .inl (nI k)), (0, .inr (.inr 0))]) tX8_inOrder_130 (by decide) rfl ?_
            refine pr_aload_n tX8_inOrder_132 6 rfl ?_
            refine pr_geta (j := 5) tX8_inOrder_133 rfl rfl rfl rfl ?_
            refine pr_iload tX8_inOrder_136 1 rfl ?_
            refine pr_ial tX8_inOrder_138 (12 * c + A.p) rfl rfl (hi) (by decide) ?_
            refine pR_topi (y := (nI (B.rt (12 * c + A.p)))) (kd3) ?_
            refine pr_istore (L' := [(7, .inl (nI (B.rt (12 * c + A.p)))), (6, .inl (nI (B.lf (12 * c + A.p)))), (5, .inl (nI (12 * c + A.p))), (4, .inl (nI A.p)), (3, .inl (nI 0)), (2, .inl (nI c)), (1, .inl (nI k)), (0, .inr (.inr 0))]) tX8_inOrder_139 (by decide) rfl ?_
            refine pr_aload_n tX8_inOrder_141 7 rfl ?_
            refine pr_geta (j := 3) tX8_inOrder_142 rfl rfl rfl rfl ?_
            refine pr_iload tX8_inOrder_145 2 rfl ?_
            refine pr_ial tX8_inOrder_147 (12 * c + A.p) rfl rfl (hi) (by decide) ?_
            refine pR_topi (y := (nI 3)) (kd1.trans (by rw [hk])) ?_
            refine pr_istore (L' := [(8, .inl (nI 3)), (7, .inl (nI (B.rt (12 * c + A.p)))), (6, .inl (nI (B.lf (12 * c + A.p)))), (5, .inl (nI (12 * c + A.p))), (4, .inl (nI A.p)), (3, .inl (nI 0)), (2, .inl (nI c)), (1, .inl (nI k)), (0, .inr (.inr 0))]) tX8_inOrder_148 (by decide) rfl ?_
            refine pr_aload_n tX8_inOrder_150 8 rfl ?_
            refine pr_geta (j := 6) tX8_inOrder_151 rfl rfl rfl rfl ?_
            refine pr_iload tX8_inOrder_154 3 rfl ?_
            refine pr_lal tX8_inOrder_156 (12 * c + A.p) rfl rfl (hi) (by decide) ?_
            refine pR_topl (y := B.vl (12 * c + A.p)) ((congrFun (pl_o (J := σ.2) (f := f) (g := g) (r := r) (x := 6) (by decide)) _).trans kd4) ?_
            refine pr_aload_n tX8_inOrder_157 8 rfl ?_
            refine pr_geta (j := 43) tX8_inOrder_158 rfl rfl rfl rfl ?_
            refine pr_iload tX8_inOrder_161 1 rfl ?_
            refine pr_lal tX8_inOrder_163 (B.rt (12 * c + A.p)) rfl rfl (k2) (by decide) ?_
            refine pR_topl (y := r (B.rt (12 * c + A.p))) (pl_r3 (J := σ.2) (f := f) (g := g) (r := r) k2) ?_
            refine pr_ladd (v := ((B.vl (12 * c + A.p)) + (r (B.rt (12 * c + A.p))))) tX8_inOrder_164 (rfl) ?_
            refine pr_callS tX8_inOrder_165 rfl ⟨Nat.le_of_ble_eq_true rfl, Nat.le_of_ble_eq_true rfl, rfl⟩ ((ev_X8_leafOf _ _).trans (by rw [leafM])) ?_
            refine pR_eq (st' := [.inl (nI (lfA (B.vl (12 * c + A.p) + r (B.rt (12 * c + A.p)))))]) rfl rfl ?_
            refine pr_istore (L' := [(9, .inl (nI (lfA (B.vl (12 * c + A.p) + r (B.rt (12 * c + A.p)))))), (8, .inl (nI 3)), (7, .inl (nI (B.rt (12 * c + A.p)))), (6, .inl (nI (B.lf (12 * c + A.p)))), (5, .inl (nI (12 * c + A.p))), (4, .inl (nI A.p)), (3, .inl (nI 0)), (2, .inl (nI c)), (1, .inl (nI k)), (0, .inr (.inr 0))]) tX8_inOrder_168 (by decide) rfl ?_
            refine pr_iload tX8_inOrder_170 1 rfl ?_
            refine pr_if_ne (pc' := 192) tX8_inOrder_172 rfl (fun hc172 => ?_) (fun hc172 => ?_)
            · skip
              refine pr_iload tX8_inOrder_192 1 rfl ?_
              refine pr_iconst (v := nI 1) tX8_inOrder_194 rfl ?_
              refine pr_ic_ne (pc' := 215) tX8_inOrder_195 rfl (fun hc195 => ?_) (fun hc195 => ?_)
              · skip
                refine pr_iload tX8_inOrder_215 1 rfl ?_
                refine pr_iconst (v := nI 2) tX8_inOrder_217 rfl ?_
                refine pr_ic_ne (pc' := 238) tX8_inOrder_218 rfl (fun hc218 => ?_) (fun hc218 => ?_)
                · skip
                  refine pr_iload tX8_inOrder_238 1 rfl ?_
                  refine pr_iconst (v := nI 3) tX8_inOrder_240 rfl ?_
                  refine pr_ic_ne (pc' := 264) tX8_inOrder_241 rfl (fun hc241 => ?_) (fun hc241 => ?_)
                  · skip
                    exact absurd hc241 (by decide)
                  · skip
                    refine pr_aload_n tX8_inOrder_244 9 rfl ?_
                    refine pr_geta (j := 43) tX8_inOrder_245 rfl rfl rfl rfl ?_
                    refine pr_iload tX8_inOrder_248 3 rfl ?_
                    refine pr_dup2 tX8_inOrder_250 ⟨rfl, rfl⟩ ?_
                    refine pr_lal tX8_inOrder_251 (B.lf (12 * c + A.p)) rfl rfl (k1) (by decide) ?_
                    refine pR_topl (y := r (B.lf (12 * c + A.p))) (pl_r3 (J := σ.2) (f := f) (g := g) (r := r) k1) ?_
                    refine pr_aload_n tX8_inOrder_252 9 rfl ?_
                    refine pr_geta (j := 43) tX8_inOrder_253 rfl rfl rfl rfl ?_
                    refine pr_iload tX8_inOrder_256 2 rfl ?_
                    refine pr_lal tX8_inOrder_258 (B.rt (12 * c + A.p)) rfl rfl (k2) (by decide) ?_
                    refine pR_topl (y := r (B.rt (12 * c + A.p))) (pl_r3 (J := σ.2) (f := f) (g := g) (r := r) k2) ?_
                    refine pr_ladd (v := ((r (B.lf (12 * c + A.p))) + (r (B.rt (12 * c + A.p))))) tX8_inOrder_259 (rfl) ?_
                    refine pr_las tX8_inOrder_260 (B.lf (12 * c + A.p)) rfl rfl (k1) (by decide) ?_
                    obtain ⟨σ1, eσ1⟩ : ∃ z : pST, z = ((σ.1, plJ σ.2 f g r).1, pm_uj (σ.1, plJ σ.2 f g r).2 43 (B.lf (12 * c + A.p)) ((r (B.lf (12 * c + A.p))) + (r (B.rt (12 * c + A.p))))) := ⟨_, rfl⟩
                    rw [← eσ1]
                    refine pr_goto (pc' := 378) tX8_inOrder_261 rfl ?_
                    refine pr_iinc (v := (nI (A.p + 1))) (L' := [(4, .inl (nI (A.p + 1))), (9, .inl (nI (lfA (B.vl (12 * c + A.p) + r (B.rt (12 * c + A.p)))))), (8, .inl (nI 3)), (7, .inl (nI (B.rt (12 * c + A.p)))), (6, .inl (nI (B.lf (12 * c + A.p)))), (5, .inl (nI (12 * c + A.p))), (3, .inl (nI 0)), (2, .inl (nI c)), (1, .inl (nI k)), (0, .inr (.inr 0))]) tX8_inOrder_378 5 rfl (nI_1 _) (by decide) rfl ?_
                    refine pr_goto (pc' := 99) tX8_inOrder_381 rfl ?_
                    have e9 : σ1 = (σ.1, plJ σ.2 f g (fup r (B.lf (12 * c + A.p)) (r (B.lf (12 * c + A.p)) + r (B.rt (12 * c + A.p))))) := by rw [eσ1]; exact Prod.ext rfl (pl_3 k1)
                    rw [e9]
                    refine pR_sub (L' := [(4, .inl (nI (A.p + 1))), (3, .inl (nI 0)), (2, .inl (nI c)), (1, .inl (nI k)), (0, .inr (.inr 0))]) [0, 6, 7, 8, 9] rfl ?_
                    have z := ih (doA B T c A).2 g (fup r (B.lf (12 * c + A.p)) (r (B.lf (12 * c + A.p)) + r (B.rt (12 * c + A.p)))) u1 hok2 hpm K2
                    rw [u2, u3] at z
                    exact z
                · skip
                  exact absurd (by decide) hc218
              · skip
                exact absurd (by decide) hc195
            · skip
              exact absurd (by decide) hc172
      · have hk : B.kd (12 * c + A.p) = 4 := hkd
        obtain ⟨u1, u2, u3⟩ := pi_k4 hB hT hi ei h hf hk
        refine pr_iload tX8_inOrder_99 0 rfl ?_
        refine pr_aload_n tX8_inOrder_101 4 rfl ?_
        refine pr_geta (j := 2) tX8_inOrder_102 rfl rfl rfl rfl ?_
        refine pr_iload_n tX8_inOrder_105 2 rfl ?_
        refine pr_ial tX8_inOrder_106 c rfl rfl (by omega) (by decide) ?_
        refine pR_topi (y := (nI (B.ac c))) (hbk.ac c hc16) ?_
        refine pr_ic_ge (pc' := 384) tX8_inOrder_107 rfl (fun hc107 => ?_) (fun hc107 => ?_)
        · skip
          exact absurd ((nI_leI (by omega) (by omega)).mp hc107) (by omega)
        · skip
          have hc107 : ¬ (B.ac c) ≤ A.p := fun z9 => hc107 ((nI_leI (by omega) (by omega)).mpr z9)
          refine pr_iload_n tX8_inOrder_110 1 rfl ?_
          refine pr_if_ne (pc' := 384) tX8_inOrder_111 rfl (fun hc111 => ?_) (fun hc111 => ?_)
          · skip
            exact absurd hc111 (by decide)
          · skip
            refine pr_bipush (v := nI 12) tX8_inOrder_114 rfl ?_
            refine pr_iload_n tX8_inOrder_116 2 rfl ?_
            refine pr_imul (v := (nI (12 * c))) tX8_inOrder_117 (pk_mul _ _) ?_
            refine pr_iload tX8_inOrder_118 0 rfl ?_
            refine pr_iadd (v := (nI (12 * c + A.p))) tX8_inOrder_120 (nI_add _ _) ?_
            refine pr_istore (L' := [(5, .inl (nI (12 * c + A.p))), (4, .inl (nI A.p)), (3, .inl (nI 0)), (2, .inl (nI c)), (1, .inl (nI k)), (0, .inr (.inr 0))]) tX8_inOrder_121 (by decide) rfl ?_
            refine pr_aload_n tX8_inOrder_123 5 rfl ?_
            refine pr_geta (j := 4) tX8_inOrder_124 rfl rfl rfl rfl ?_
            refine pr_iload tX8_inOrder_127 0 rfl ?_
            refine pr_ial tX8_inOrder_129 (12 * c + A.p) rfl rfl (hi) (by decide) ?_
            refine pR_topi (y := (nI (B.lf (12 * c + A.p)))) (kd2) ?_
            refine pr_istore (L' := [(6, .inl (nI (B.lf (12 * c + A.p)))), (5, .inl (nI (12 * c + A.p))), (4, .inl (nI A.p)), (3, .inl (nI 0)), (2, .inl (nI c)), (1, .inl (nI k)), (0, .inr (.inr 0))]) tX8_inOrder_130 (by decide) rfl ?_
            refine pr_aload_n tX8_inOrder_132 6 rfl ?_
            refine pr_geta (j := 5) tX8_inOrder_133 rfl rfl rfl rfl ?_
            refine pr_iload tX8_inOrder_136 1 rfl ?_
            refine pr_ial tX8_inOrder_138 (12 * c + A.p) rfl rfl (hi) (by decide) ?_
            refine pR_topi (y := (nI (B.rt (12 * c + A.p)))) (kd3) ?_
            refine pr_istore (L' := [(7, .inl (nI (B.rt (12 * c + A.p)))), (6, .inl (nI (B.lf (12 * c + A.p)))), (5, .inl (nI (12 * c + A.p))), (4, .inl (nI A.p)), (3, .inl (nI 0)), (2, .inl (nI c)), (1, .inl (nI k)), (0, .inr (.inr 0))]) tX8_inOrder_139 (by decide) rfl ?_
            refine pr_aload_n tX8_inOrder_141 7 rfl ?_
            refine pr_geta (j := 3) tX8_inOrder_142 rfl rfl rfl rfl ?_
            refine pr_iload tX8_inOrder_145 2 rfl ?_
            refine pr_ial tX8_inOrder_147 (12 * c + A.p) rfl rfl (hi) (by decide) ?_
            refine pR_topi (y := (nI 4)) (kd1.trans (by rw [hk])) ?_
            refine pr_istore (L' := [(8, .inl (nI 4)), (7, .inl (nI (B.rt (12 * c + A.p)))), (6, .inl (nI (B.lf (12 * c + A.p)))), (5, .inl (nI (12 * c + A.p))), (4, .inl (nI A.p)), (3, .inl (nI 0)), (2, .inl (nI c)), (1, .inl (nI k)), (0, .inr (.inr 0))]) tX8_inOrder_148 (by decide) rfl ?_
            refine pr_aload_n tX8_inOrder_150 8 rfl ?_
            refine pr_geta (j := 6) tX8_inOrder_151 rfl rfl rfl rfl ?_
            refine pr_iload tX8_inOrder_154 3 rfl ?_
            refine pr_lal tX8_inOrder_156 (12 * c + A.p) rfl rfl (hi) (by decide) ?_
            refine pR_topl (y := B.vl (12 * c + A.p)) ((congrFun (pl_o (J := σ.2) (f := f) (g := g) (r := r) (x := 6) (by decide)) _).trans kd4) ?_
            refine pr_aload_n tX8_inOrder_157 8 rfl ?_
            refine pr_geta (j := 43) tX8_inOrder_158 rfl rfl rfl rfl ?_
            refine pr_iload tX8_inOrder_161 1 rfl ?_
            refine pr_lal tX8_inOrder_163 (B.rt (12 * c + A.p)) rfl rfl (k2) (by decide) ?_
            refine pR_topl (y := r (B.rt (12 * c + A.p))) (pl_r3 (J := σ.2) (f := f) (g := g) (r := r) k2) ?_
            refine pr_ladd (v := ((B.vl (12 * c + A.p)) + (r (B.rt (12 * c + A.p))))) tX8_inOrder_164 (rfl) ?_
            refine pr_callS tX8_inOrder_165 rfl ⟨Nat.le_of_ble_eq_true rfl, Nat.le_of_ble_eq_true rfl, rfl⟩ ((ev_X8_leafOf _ _).trans (by rw [leafM])) ?_
            refine pR_eq (st' := [.inl (nI (lfA (B.vl (12 * c + A.p) + r (B.rt (12 * c + A.p)))))]) rfl rfl ?_
            refine pr_istore (L' := [(9, .inl (nI (lfA (B.vl (12 * c + A.p) + r (B.rt (12 * c + A.p)))))), (8, .inl (nI 4)), (7, .inl (nI (B.rt (12 * c + A.p)))), (6, .inl (nI (B.lf (12 * c + A.p)))), (5, .inl (nI (12 * c + A.p))), (4, .inl (nI A.p)), (3, .inl (nI 0)), (2, .inl (nI c)), (1, .inl (nI k)), (0, .inr (.inr 0))]) tX8_inOrder_168 (by decide) rfl ?_
            refine pr_iload tX8_inOrder_170 1 rfl ?_
            refine pr_if_ne (pc' := 192) tX8_inOrder_172 rfl (fun hc172 => ?_) (fun hc172 => ?_)
            · skip
              refine pr_iload tX8_inOrder_192 1 rfl ?_
              refine pr_iconst (v := nI 1) tX8_inOrder_194 rfl ?_
              refine pr_ic_ne (pc' := 215) tX8_inOrder_195 rfl (fun hc195 => ?_) (fun hc195 => ?_)
              · skip
                refine pr_iload tX8_inOrder_215 1 rfl ?_
                refine pr_iconst (v := nI 2) tX8_inOrder_217 rfl ?_
                refine pr_ic_ne (pc' := 238) tX8_inOrder_218 rfl (fun hc218 => ?_) (fun hc218 => ?_)
                · skip
                  refine pr_iload tX8_inOrder_238 1 rfl ?_
                  refine pr_iconst (v := nI 3) tX8_inOrder_240 rfl ?_
                  refine pr_ic_ne (pc' := 264) tX8_inOrder_241 rfl (fun hc241 => ?_) (fun hc241 => ?_)
                  · skip
                    refine pr_iload tX8_inOrder_264 1 rfl ?_
                    refine pr_iconst (v := nI 4) tX8_inOrder_266 rfl ?_
                    refine pr_ic_ne (pc' := 290) tX8_inOrder_267 rfl (fun hc267 => ?_) (fun hc267 => ?_)
                    · skip
                      exact absurd hc267 (by decide)
                    · skip
                      refine pr_aload_n tX8_inOrder_270 9 rfl ?_
                      refine pr_geta (j := 43) tX8_inOrder_271 rfl rfl rfl rfl ?_
                      refine pr_iload tX8_inOrder_274 3 rfl ?_
                      refine pr_dup2 tX8_inOrder_276 ⟨rfl, rfl⟩ ?_
                      refine pr_lal tX8_inOrder_277 (B.lf (12 * c + A.p)) rfl rfl (k1) (by decide) ?_
                      refine pR_topl (y := r (B.lf (12 * c + A.p))) (pl_r3 (J := σ.2) (f := f) (g := g) (r := r) k1) ?_
                      refine pr_aload_n tX8_inOrder_278 9 rfl ?_
                      refine pr_geta (j := 43) tX8_inOrder_279 rfl rfl rfl rfl ?_
                      refine pr_iload tX8_inOrder_282 2 rfl ?_
                      refine pr_lal tX8_inOrder_284 (B.rt (12 * c + A.p)) rfl rfl (k2) (by decide) ?_
                      refine pR_topl (y := r (B.rt (12 * c + A.p))) (pl_r3 (J := σ.2) (f := f) (g := g) (r := r) k2) ?_
                      refine pr_lsub (v := ((r (B.lf (12 * c + A.p))) - (r (B.rt (12 * c + A.p))))) tX8_inOrder_285 (rfl) ?_
                      refine pr_las tX8_inOrder_286 (B.lf (12 * c + A.p)) rfl rfl (k1) (by decide) ?_
                      obtain ⟨σ1, eσ1⟩ : ∃ z : pST, z = ((σ.1, plJ σ.2 f g r).1, pm_uj (σ.1, plJ σ.2 f g r).2 43 (B.lf (12 * c + A.p)) ((r (B.lf (12 * c + A.p))) - (r (B.rt (12 * c + A.p))))) := ⟨_, rfl⟩
                      rw [← eσ1]
                      refine pr_goto (pc' := 378) tX8_inOrder_287 rfl ?_
                      refine pr_iinc (v := (nI (A.p + 1))) (L' := [(4, .inl (nI (A.p + 1))), (9, .inl (nI (lfA (B.vl (12 * c + A.p) + r (B.rt (12 * c + A.p)))))), (8, .inl (nI 4)), (7, .inl (nI (B.rt (12 * c + A.p)))), (6, .inl (nI (B.lf (12 * c + A.p)))), (5, .inl (nI (12 * c + A.p))), (3, .inl (nI 0)), (2, .inl (nI c)), (1, .inl (nI k)), (0, .inr (.inr 0))]) tX8_inOrder_378 5 rfl (nI_1 _) (by decide) rfl ?_
                      refine pr_goto (pc' := 99) tX8_inOrder_381 rfl ?_
                      have e9 : σ1 = (σ.1, plJ σ.2 f g (fup r (B.lf (12 * c + A.p)) (r (B.lf (12 * c + A.p)) - r (B.rt (12 * c + A.p))))) := by rw [eσ1]; exact Prod.ext rfl (pl_3 k1)
                      rw [e9]
                      refine pR_sub (L' := [(4, .inl (nI (A.p + 1))), (3, .inl (nI 0)), (2, .inl (nI c)), (1, .inl (nI k)), (0, .inr (.inr 0))]) [0, 6, 7, 8, 9] rfl ?_
                      have z := ih (doA B T c A).2 g (fup r (B.lf (12 * c + A.p)) (r (B.lf (12 * c + A.p)) - r (B.rt (12 * c + A.p)))) u1 hok2 hpm K2
                      rw [u2, u3] at z
                      exact z
                  · skip
                    exact absurd (by decide) hc241
                · skip
                  exact absurd (by decide) hc218
              · skip
                exact absurd (by decide) hc195
            · skip
              exact absurd (by decide) hc172
      · have hk : B.kd (12 * c + A.p) = 5 := hkd
        obtain ⟨u1, u2, u3⟩ := pi_k5 hB hT hi ei h hf hk
        refine pr_iload tX8_inOrder_99 0 rfl ?_
        refine pr_aload_n tX8_inOrder_101 4 rfl ?_
        refine pr_geta (j := 2) tX8_inOrder_102 rfl rfl rfl rfl ?_
        refine pr_iload_n tX8_inOrder_105 2 rfl ?_
        refine pr_ial tX8_inOrder_106 c rfl rfl (by omega) (by decide) ?_
        refine pR_topi (y := (nI (B.ac c))) (hbk.ac c hc16) ?_
        refine pr_ic_ge (pc' := 384) tX8_inOrder_107 rfl (fun hc107 => ?_) (fun hc107 => ?_)
        · skip
          exact absurd ((nI_leI (by omega) (by omega)).mp hc107) (by omega)
        · skip
          have hc107 : ¬ (B.ac c) ≤ A.p := fun z9 => hc107 ((nI_leI (by omega) (by omega)).mpr z9)
          refine pr_iload_n tX8_inOrder_110 1 rfl ?_
          refine pr_if_ne (pc' := 384) tX8_inOrder_111 rfl (fun hc111 => ?_) (fun hc111 => ?_)
          · skip
            exact absurd hc111 (by decide)
          · skip
            refine pr_bipush (v := nI 12) tX8_inOrder_114 rfl ?_
            refine pr_iload_n tX8_inOrder_116 2 rfl ?_
            refine pr_imul (v := (nI (12 * c))) tX8_inOrder_117 (pk_mul _ _) ?_
            refine pr_iload tX8_inOrder_118 0 rfl ?_
            refine pr_iadd (v := (nI (12 * c + A.p))) tX8_inOrder_120 (nI_add _ _) ?_
            refine pr_istore (L' := [(5, .inl (nI (12 * c + A.p))), (4, .inl (nI A.p)), (3, .inl (nI 0)), (2, .inl (nI c)), (1, .inl (nI k)), (0, .inr (.inr 0))]) tX8_inOrder_121 (by decide) rfl ?_
            refine pr_aload_n tX8_inOrder_123 5 rfl ?_
            refine pr_geta (j := 4) tX8_inOrder_124 rfl rfl rfl rfl ?_
            refine pr_iload tX8_inOrder_127 0 rfl ?_
            refine pr_ial tX8_inOrder_129 (12 * c + A.p) rfl rfl (hi) (by decide) ?_
            refine pR_topi (y := (nI (B.lf (12 * c + A.p)))) (kd2) ?_
            refine pr_istore (L' := [(6, .inl (nI (B.lf (12 * c + A.p)))), (5, .inl (nI (12 * c + A.p))), (4, .inl (nI A.p)), (3, .inl (nI 0)), (2, .inl (nI c)), (1, .inl (nI k)), (0, .inr (.inr 0))]) tX8_inOrder_130 (by decide) rfl ?_
            refine pr_aload_n tX8_inOrder_132 6 rfl ?_
            refine pr_geta (j := 5) tX8_inOrder_133 rfl rfl rfl rfl ?_
            refine pr_iload tX8_inOrder_136 1 rfl ?_
            refine pr_ial tX8_inOrder_138 (12 * c + A.p) rfl rfl (hi) (by decide) ?_
            refine pR_topi (y := (nI (B.rt (12 * c + A.p)))) (kd3) ?_
            refine pr_istore (L' := [(7, .inl (nI (B.rt (12 * c + A.p)))), (6, .inl (nI (B.lf (12 * c + A.p)))), (5, .inl (nI (12 * c + A.p))), (4, .inl (nI A.p)), (3, .inl (nI 0)), (2, .inl (nI c)), (1, .inl (nI k)), (0, .inr (.inr 0))]) tX8_inOrder_139 (by decide) rfl ?_
            refine pr_aload_n tX8_inOrder_141 7 rfl ?_
            refine pr_geta (j := 3) tX8_inOrder_142 rfl rfl rfl rfl ?_
            refine pr_iload tX8_inOrder_145 2 rfl ?_
            refine pr_ial tX8_inOrder_147 (12 * c + A.p) rfl rfl (hi) (by decide) ?_
            refine pR_topi (y := (nI 5)) (kd1.trans (by rw [hk])) ?_
            refine pr_istore (L' := [(8, .inl (nI 5)), (7, .inl (nI (B.rt (12 * c + A.p)))), (6, .inl (nI (B.lf (12 * c + A.p)))), (5, .inl (nI (12 * c + A.p))), (4, .inl (nI A.p)), (3, .inl (nI 0)), (2, .inl (nI c)), (1, .inl (nI k)), (0, .inr (.inr 0))]) tX8_inOrder_148 (by decide) rfl ?_
            refine pr_aload_n tX8_inOrder_150 8 rfl ?_
            refine pr_geta (j := 6) tX8_inOrder_151 rfl rfl rfl rfl ?_
            refine pr_iload tX8_inOrder_154 3 rfl ?_
            refine pr_lal tX8_inOrder_156 (12 * c + A.p) rfl rfl (hi) (by decide) ?_
            refine pR_topl (y := B.vl (12 * c + A.p)) ((congrFun (pl_o (J := σ.2) (f := f) (g := g) (r := r) (x := 6) (by decide)) _).trans kd4) ?_
            refine pr_aload_n tX8_inOrder_157 8 rfl ?_
            refine pr_geta (j := 43) tX8_inOrder_158 rfl rfl rfl rfl ?_
            refine pr_iload tX8_inOrder_161 1 rfl ?_
            refine pr_lal tX8_inOrder_163 (B.rt (12 * c + A.p)) rfl rfl (k2) (by decide) ?_
            refine pR_topl (y := r (B.rt (12 * c + A.p))) (pl_r3 (J := σ.2) (f := f) (g := g) (r := r) k2) ?_
            refine pr_ladd (v := ((B.vl (12 * c + A.p)) + (r (B.rt (12 * c + A.p))))) tX8_inOrder_164 (rfl) ?_
            refine pr_callS tX8_inOrder_165 rfl ⟨Nat.le_of_ble_eq_true rfl, Nat.le_of_ble_eq_true rfl, rfl⟩ ((ev_X8_leafOf _ _).trans (by rw [leafM])) ?_
            refine pR_eq (st' := [.inl (nI (lfA (B.vl (12 * c + A.p) + r (B.rt (12 * c + A.p)))))]) rfl rfl ?_
            refine pr_istore (L' := [(9, .inl (nI (lfA (B.vl (12 * c + A.p) + r (B.rt (12 * c + A.p)))))), (8, .inl (nI 5)), (7, .inl (nI (B.rt (12 * c + A.p)))), (6, .inl (nI (B.lf (12 * c + A.p)))), (5, .inl (nI (12 * c + A.p))), (4, .inl (nI A.p)), (3, .inl (nI 0)), (2, .inl (nI c)), (1, .inl (nI k)), (0, .inr (.inr 0))]) tX8_inOrder_168 (by decide) rfl ?_
            refine pr_iload tX8_inOrder_170 1 rfl ?_
            refine pr_if_ne (pc' := 192) tX8_inOrder_172 rfl (fun hc172 => ?_) (fun hc172 => ?_)
            · skip
              refine pr_iload tX8_inOrder_192 1 rfl ?_
              refine pr_iconst (v := nI 1) tX8_inOrder_194 rfl ?_
              refine pr_ic_ne (pc' := 215) tX8_inOrder_195 rfl (fun hc195 => ?_) (fun hc195 => ?_)
              · skip
                refine pr_iload tX8_inOrder_215 1 rfl ?_
                refine pr_iconst (v := nI 2) tX8_inOrder_217 rfl ?_
                refine pr_ic_ne (pc' := 238) tX8_inOrder_218 rfl (fun hc218 => ?_) (fun hc218 => ?_)
                · skip
                  refine pr_iload tX8_inOrder_238 1 rfl ?_
                  refine pr_iconst (v := nI 3) tX8_inOrder_240 rfl ?_
                  refine pr_ic_ne (pc' := 264) tX8_inOrder_241 rfl (fun hc241 => ?_) (fun hc241 => ?_)
                  · skip
                    refine pr_iload tX8_inOrder_264 1 rfl ?_
                    refine pr_iconst (v := nI 4) tX8_inOrder_266 rfl ?_
                    refine pr_ic_ne (pc' := 290) tX8_inOrder_267 rfl (fun hc267 => ?_) (fun hc267 => ?_)
                    · skip
                      refine pr_iload tX8_inOrder_290 1 rfl ?_
                      refine pr_iconst (v := nI 5) tX8_inOrder_292 rfl ?_
                      refine pr_ic_ne (pc' := 316) tX8_inOrder_293 rfl (fun hc293 => ?_) (fun hc293 => ?_)
                      · skip
                        exact absurd hc293 (by decide)
                      · skip
                        refine pr_aload_n tX8_inOrder_296 9 rfl ?_
                        refine pr_geta (j := 43) tX8_inOrder_297 rfl rfl rfl rfl ?_
                        refine pr_iload tX8_inOrder_300 3 rfl ?_
                        refine pr_dup2 tX8_inOrder_302 ⟨rfl, rfl⟩ ?_
                        refine pr_lal tX8_inOrder_303 (B.lf (12 * c + A.p)) rfl rfl (k1) (by decide) ?_
                        refine pR_topl (y := r (B.lf (12 * c + A.p))) (pl_r3 (J := σ.2) (f := f) (g := g) (r := r) k1) ?_
                        refine pr_aload_n tX8_inOrder_304 9 rfl ?_
                        refine pr_geta (j := 43) tX8_inOrder_305 rfl rfl rfl rfl ?_
                        refine pr_iload tX8_inOrder_308 2 rfl ?_
                        refine pr_lal tX8_inOrder_310 (B.rt (12 * c + A.p)) rfl rfl (k2) (by decide) ?_
                        refine pR_topl (y := r (B.rt (12 * c + A.p))) (pl_r3 (J := σ.2) (f := f) (g := g) (r := r) k2) ?_
                        refine pr_lmul (v := ((r (B.lf (12 * c + A.p))) * (r (B.rt (12 * c + A.p))))) tX8_inOrder_311 (rfl) ?_
                        refine pr_las tX8_inOrder_312 (B.lf (12 * c + A.p)) rfl rfl (k1) (by decide) ?_
                        obtain ⟨σ1, eσ1⟩ : ∃ z : pST, z = ((σ.1, plJ σ.2 f g r).1, pm_uj (σ.1, plJ σ.2 f g r).2 43 (B.lf (12 * c + A.p)) ((r (B.lf (12 * c + A.p))) * (r (B.rt (12 * c + A.p))))) := ⟨_, rfl⟩
                        rw [← eσ1]
                        refine pr_goto (pc' := 378) tX8_inOrder_313 rfl ?_
                        refine pr_iinc (v := (nI (A.p + 1))) (L' := [(4, .inl (nI (A.p + 1))), (9, .inl (nI (lfA (B.vl (12 * c + A.p) + r (B.rt (12 * c + A.p)))))), (8, .inl (nI 5)), (7, .inl (nI (B.rt (12 * c + A.p)))), (6, .inl (nI (B.lf (12 * c + A.p)))), (5, .inl (nI (12 * c + A.p))), (3, .inl (nI 0)), (2, .inl (nI c)), (1, .inl (nI k)), (0, .inr (.inr 0))]) tX8_inOrder_378 5 rfl (nI_1 _) (by decide) rfl ?_
                        refine pr_goto (pc' := 99) tX8_inOrder_381 rfl ?_
                        have e9 : σ1 = (σ.1, plJ σ.2 f g (fup r (B.lf (12 * c + A.p)) (r (B.lf (12 * c + A.p)) * r (B.rt (12 * c + A.p))))) := by rw [eσ1]; exact Prod.ext rfl (pl_3 k1)
                        rw [e9]
                        refine pR_sub (L' := [(4, .inl (nI (A.p + 1))), (3, .inl (nI 0)), (2, .inl (nI c)), (1, .inl (nI k)), (0, .inr (.inr 0))]) [0, 6, 7, 8, 9] rfl ?_
                        have z := ih (doA B T c A).2 g (fup r (B.lf (12 * c + A.p)) (r (B.lf (12 * c + A.p)) * r (B.rt (12 * c + A.p)))) u1 hok2 hpm K2
                        rw [u2, u3] at z
                        exact z
                    · skip
                      exact absurd (by decide) hc267
                  · skip
                    exact absurd (by decide) hc241
                · skip
                  exact absurd (by decide) hc218
              · skip
                exact absurd (by decide) hc195
            · skip
              exact absurd (by decide) hc172
      · have hk : B.kd (12 * c + A.p) = 6 := hkd
        by_cases hw : lg_cmp (r (B.lf (12 * c + A.p))) (r (B.rt (12 * c + A.p))) < 0
        · skip
          obtain ⟨q, hq1, hq2⟩ := (hB.kd _ hi).2.2.2 hk
          obtain ⟨u1, u2, u3⟩ := pi_k6t hB hT hi ei h hf hk hw
          refine pr_iload tX8_inOrder_99 0 rfl ?_
          refine pr_aload_n tX8_inOrder_101 4 rfl ?_
          refine pr_geta (j := 2) tX8_inOrder_102 rfl rfl rfl rfl ?_
          refine pr_iload_n tX8_inOrder_105 2 rfl ?_
          refine pr_ial tX8_inOrder_106 c rfl rfl (by omega) (by decide) ?_
          refine pR_topi (y := (nI (B.ac c))) (hbk.ac c hc16) ?_
          refine pr_ic_ge (pc' := 384) tX8_inOrder_107 rfl (fun hc107 => ?_) (fun hc107 => ?_)
          · skip
            exact absurd ((nI_leI (by omega) (by omega)).mp hc107) (by omega)
          · skip
            have hc107 : ¬ (B.ac c) ≤ A.p := fun z9 => hc107 ((nI_leI (by omega) (by omega)).mpr z9)
            refine pr_iload_n tX8_inOrder_110 1 rfl ?_
            refine pr_if_ne (pc' := 384) tX8_inOrder_111 rfl (fun hc111 => ?_) (fun hc111 => ?_)
            · skip
              exact absurd hc111 (by decide)
            · skip
              refine pr_bipush (v := nI 12) tX8_inOrder_114 rfl ?_
              refine pr_iload_n tX8_inOrder_116 2 rfl ?_
              refine pr_imul (v := (nI (12 * c))) tX8_inOrder_117 (pk_mul _ _) ?_
              refine pr_iload tX8_inOrder_118 0 rfl ?_
              refine pr_iadd (v := (nI (12 * c + A.p))) tX8_inOrder_120 (nI_add _ _) ?_
              refine pr_istore (L' := [(5, .inl (nI (12 * c + A.p))), (4, .inl (nI A.p)), (3, .inl (nI 0)), (2, .inl (nI c)), (1, .inl (nI k)), (0, .inr (.inr 0))]) tX8_inOrder_121 (by decide) rfl ?_
              refine pr_aload_n tX8_inOrder_123 5 rfl ?_
              refine pr_geta (j := 4) tX8_inOrder_124 rfl rfl rfl rfl ?_
              refine pr_iload tX8_inOrder_127 0 rfl ?_
              refine pr_ial tX8_inOrder_129 (12 * c + A.p) rfl rfl (hi) (by decide) ?_
              refine pR_topi (y := (nI (B.lf (12 * c + A.p)))) (kd2) ?_
              refine pr_istore (L' := [(6, .inl (nI (B.lf (12 * c + A.p)))), (5, .inl (nI (12 * c + A.p))), (4, .inl (nI A.p)), (3, .inl (nI 0)), (2, .inl (nI c)), (1, .inl (nI k)), (0, .inr (.inr 0))]) tX8_inOrder_130 (by decide) rfl ?_
              refine pr_aload_n tX8_inOrder_132 6 rfl ?_
              refine pr_geta (j := 5) tX8_inOrder_133 rfl rfl rfl rfl ?_
              refine pr_iload tX8_inOrder_136 1 rfl ?_
              refine pr_ial tX8_inOrder_138 (12 * c + A.p) rfl rfl (hi) (by decide) ?_
              refine pR_topi (y := (nI (B.rt (12 * c + A.p)))) (kd3) ?_
              refine pr_istore (L' := [(7, .inl (nI (B.rt (12 * c + A.p)))), (6, .inl (nI (B.lf (12 * c + A.p)))), (5, .inl (nI (12 * c + A.p))), (4, .inl (nI A.p)), (3, .inl (nI 0)), (2, .inl (nI c)), (1, .inl (nI k)), (0, .inr (.inr 0))]) tX8_inOrder_139 (by decide) rfl ?_
              refine pr_aload_n tX8_inOrder_141 7 rfl ?_
              refine pr_geta (j := 3) tX8_inOrder_142 rfl rfl rfl rfl ?_
              refine pr_iload tX8_inOrder_145 2 rfl ?_
              refine pr_ial tX8_inOrder_147 (12 * c + A.p) rfl rfl (hi) (by decide) ?_
              refine pR_topi (y := (nI 6)) (kd1.trans (by rw [hk])) ?_
              refine pr_istore (L' := [(8, .inl (nI 6)), (7, .inl (nI (B.rt (12 * c + A.p)))), (6, .inl (nI (B.lf (12 * c + A.p)))), (5, .inl (nI (12 * c + A.p))), (4, .inl (nI A.p)), (3, .inl (nI 0)), (2, .inl (nI c)), (1, .inl (nI k)), (0, .inr (.inr 0))]) tX8_inOrder_148 (by decide) rfl ?_
              refine pr_aload_n tX8_inOrder_150 8 rfl ?_
              refine pr_geta (j := 6) tX8_inOrder_151 rfl rfl rfl rfl ?_
              refine pr_iload tX8_inOrder_154 3 rfl ?_
              refine pr_lal tX8_inOrder_156 (12 * c + A.p) rfl rfl (hi) (by decide) ?_
              refine pR_topl (y := B.vl (12 * c + A.p)) ((congrFun (pl_o (J := σ.2) (f := f) (g := g) (r := r) (x := 6) (by decide)) _).trans kd4) ?_
              refine pr_aload_n tX8_inOrder_157 8 rfl ?_
              refine pr_geta (j := 43) tX8_inOrder_158 rfl rfl rfl rfl ?_
              refine pr_iload tX8_inOrder_161 1 rfl ?_
              refine pr_lal tX8_inOrder_163 (B.rt (12 * c + A.p)) rfl rfl (k2) (by decide) ?_
              refine pR_topl (y := r (B.rt (12 * c + A.p))) (pl_r3 (J := σ.2) (f := f) (g := g) (r := r) k2) ?_
              refine pr_ladd (v := ((B.vl (12 * c + A.p)) + (r (B.rt (12 * c + A.p))))) tX8_inOrder_164 (rfl) ?_
              refine pr_callS tX8_inOrder_165 rfl ⟨Nat.le_of_ble_eq_true rfl, Nat.le_of_ble_eq_true rfl, rfl⟩ ((ev_X8_leafOf _ _).trans (by rw [leafM])) ?_
              refine pR_eq (st' := [.inl (nI (lfA (B.vl (12 * c + A.p) + r (B.rt (12 * c + A.p)))))]) rfl rfl ?_
              refine pr_istore (L' := [(9, .inl (nI (lfA (B.vl (12 * c + A.p) + r (B.rt (12 * c + A.p)))))), (8, .inl (nI 6)), (7, .inl (nI (B.rt (12 * c + A.p)))), (6, .inl (nI (B.lf (12 * c + A.p)))), (5, .inl (nI (12 * c + A.p))), (4, .inl (nI A.p)), (3, .inl (nI 0)), (2, .inl (nI c)), (1, .inl (nI k)), (0, .inr (.inr 0))]) tX8_inOrder_168 (by decide) rfl ?_
              refine pr_iload tX8_inOrder_170 1 rfl ?_
              refine pr_if_ne (pc' := 192) tX8_inOrder_172 rfl (fun hc172 => ?_) (fun hc172 => ?_)
              · skip
                refine pr_iload tX8_inOrder_192 1 rfl ?_
                refine pr_iconst (v := nI 1) tX8_inOrder_194 rfl ?_
                refine pr_ic_ne (pc' := 215) tX8_inOrder_195 rfl (fun hc195 => ?_) (fun hc195 => ?_)
                · skip
                  refine pr_iload tX8_inOrder_215 1 rfl ?_
                  refine pr_iconst (v := nI 2) tX8_inOrder_217 rfl ?_
                  refine pr_ic_ne (pc' := 238) tX8_inOrder_218 rfl (fun hc218 => ?_) (fun hc218 => ?_)
                  · skip
                    refine pr_iload tX8_inOrder_238 1 rfl ?_
                    refine pr_iconst (v := nI 3) tX8_inOrder_240 rfl ?_
                    refine pr_ic_ne (pc' := 264) tX8_inOrder_241 rfl (fun hc241 => ?_) (fun hc241 => ?_)
                    · skip
                      refine pr_iload tX8_inOrder_264 1 rfl ?_
                      refine pr_iconst (v := nI 4) tX8_inOrder_266 rfl ?_
                      refine pr_ic_ne (pc' := 290) tX8_inOrder_267 rfl (fun hc267 => ?_) (fun hc267 => ?_)
                      · skip
                        refine pr_iload tX8_inOrder_290 1 rfl ?_
                        refine pr_iconst (v := nI 5) tX8_inOrder_292 rfl ?_
                        refine pr_ic_ne (pc' := 316) tX8_inOrder_293 rfl (fun hc293 => ?_) (fun hc293 => ?_)
                        · skip
                          refine pr_iload tX8_inOrder_316 1 rfl ?_
                          refine pr_bipush (v := nI 6) tX8_inOrder_318 rfl ?_
                          refine pr_ic_ne (pc' := 357) tX8_inOrder_320 rfl (fun hc320 => ?_) (fun hc320 => ?_)
                          · skip
                            exact absurd hc320 (by decide)
                          · skip
                            refine pr_aload_n tX8_inOrder_323 9 rfl ?_
                            refine pr_geta (j := 43) tX8_inOrder_324 rfl rfl rfl rfl ?_
                            refine pr_iload tX8_inOrder_327 3 rfl ?_
                            refine pr_lal tX8_inOrder_329 (B.lf (12 * c + A.p)) rfl rfl (k1) (by decide) ?_
                            refine pR_topl (y := r (B.lf (12 * c + A.p))) (pl_r3 (J := σ.2) (f := f) (g := g) (r := r) k1) ?_
                            refine pr_aload_n tX8_inOrder_330 9 rfl ?_
                            refine pr_geta (j := 43) tX8_inOrder_331 rfl rfl rfl rfl ?_
                            refine pr_iload tX8_inOrder_334 2 rfl ?_
                            refine pr_lal tX8_inOrder_336 (B.rt (12 * c + A.p)) rfl rfl (k2) (by decide) ?_
                            refine pR_topl (y := r (B.rt (12 * c + A.p))) (pl_r3 (J := σ.2) (f := f) (g := g) (r := r) k2) ?_
                            refine pr_lcmp tX8_inOrder_337 ?_
                            refine pr_if_ge (pc' := 357) tX8_inOrder_338 rfl (fun hc338 => ?_) (fun hc338 => ?_)
                            · skip
                              exact absurd hw (Int32.not_lt.mpr hc338)
                            · skip
                              skip
                              refine pr_iload tX8_inOrder_341 5 rfl ?_
                              refine pr_aload_n tX8_inOrder_343 9 rfl ?_
                              refine pr_geta (j := 6) tX8_inOrder_344 rfl rfl rfl rfl ?_
                              refine pr_iload tX8_inOrder_347 4 rfl ?_
                              refine pr_lal tX8_inOrder_349 (12 * c + A.p) rfl rfl (hi) (by decide) ?_
                              refine pR_topl (y := B.vl (12 * c + A.p)) ((congrFun (pl_o (J := σ.2) (f := f) (g := g) (r := r) (x := 6) (by decide)) _).trans kd4) ?_
                              refine pr_l2i (v := (nI q)) tX8_inOrder_350 (hq2) ?_
                              refine pr_iadd (v := (nI (A.p + q))) tX8_inOrder_351 (nI_add _ _) ?_
                              refine pr_istore (L' := [(4, .inl (nI (A.p + q))), (9, .inl (nI (lfA (B.vl (12 * c + A.p) + r (B.rt (12 * c + A.p)))))), (8, .inl (nI 6)), (7, .inl (nI (B.rt (12 * c + A.p)))), (6, .inl (nI (B.lf (12 * c + A.p)))), (5, .inl (nI (12 * c + A.p))), (3, .inl (nI 0)), (2, .inl (nI c)), (1, .inl (nI k)), (0, .inr (.inr 0))]) tX8_inOrder_352 (by decide) rfl ?_
                              refine pr_goto (pc' := 378) tX8_inOrder_354 rfl ?_
                              refine pr_iinc (v := (nI ((A.p + q) + 1))) (L' := [(4, .inl (nI ((A.p + q) + 1))), (9, .inl (nI (lfA (B.vl (12 * c + A.p) + r (B.rt (12 * c + A.p)))))), (8, .inl (nI 6)), (7, .inl (nI (B.rt (12 * c + A.p)))), (6, .inl (nI (B.lf (12 * c + A.p)))), (5, .inl (nI (12 * c + A.p))), (3, .inl (nI 0)), (2, .inl (nI c)), (1, .inl (nI k)), (0, .inr (.inr 0))]) tX8_inOrder_378 0 rfl (nI_1 _) (by decide) rfl ?_
                              refine pr_goto (pc' := 99) tX8_inOrder_381 rfl ?_
                              refine pR_sub (L' := [(4, .inl (nI ((A.p + q) + 1))), (3, .inl (nI 0)), (2, .inl (nI c)), (1, .inl (nI k)), (0, .inr (.inr 0))]) [0, 6, 7, 8, 9] rfl ?_
                              have z := ih (doA B T c A).2 g r u1 hok2 hpm K2
                              rw [u2, u3] at z
                              rw [hq2, nI_clamp (show q < 2 ^ 31 by omega)] at z
                              exact z
                        · skip
                          exact absurd (by decide) hc293
                      · skip
                        exact absurd (by decide) hc267
                    · skip
                      exact absurd (by decide) hc241
                  · skip
                    exact absurd (by decide) hc218
                · skip
                  exact absurd (by decide) hc195
              · skip
                exact absurd (by decide) hc172
        · skip
          obtain ⟨q, hq1, hq2⟩ := (hB.kd _ hi).2.2.2 hk
          obtain ⟨u1, u2, u3⟩ := pi_k6f hB hT hi ei h hf hk hw
          refine pr_iload tX8_inOrder_99 0 rfl ?_
          refine pr_aload_n tX8_inOrder_101 4 rfl ?_
          refine pr_geta (j := 2) tX8_inOrder_102 rfl rfl rfl rfl ?_
          refine pr_iload_n tX8_inOrder_105 2 rfl ?_
          refine pr_ial tX8_inOrder_106 c rfl rfl (by omega) (by decide) ?_
          refine pR_topi (y := (nI (B.ac c))) (hbk.ac c hc16) ?_
          refine pr_ic_ge (pc' := 384) tX8_inOrder_107 rfl (fun hc107 => ?_) (fun hc107 => ?_)
          · skip
            exact absurd ((nI_leI (by omega) (by omega)).mp hc107) (by omega)
          · skip
            have hc107 : ¬ (B.ac c) ≤ A.p := fun z9 => hc107 ((nI_leI (by omega) (by omega)).mpr z9)
            refine pr_iload_n tX8_inOrder_110 1 rfl ?_
            refine pr_if_ne (pc' := 384) tX8_inOrder_111 rfl (fun hc111 => ?_) (fun hc111 => ?_)
            · skip
              exact absurd hc111 (by decide)
            · skip
              refine pr_bipush (v := nI 12) tX8_inOrder_114 rfl ?_
              refine pr_iload_n tX8_inOrder_116 2 rfl ?_
              refine pr_imul (v := (nI (12 * c))) tX8_inOrder_117 (pk_mul _ _) ?_
              refine pr_iload tX8_inOrder_118 0 rfl ?_
              refine pr_iadd (v := (nI (12 * c + A.p))) tX8_inOrder_120 (nI_add _ _) ?_
              refine pr_istore (L' := [(5, .inl (nI (12 * c + A.p))), (4, .inl (nI A.p)), (3, .inl (nI 0)), (2, .inl (nI c)), (1, .inl (nI k)), (0, .inr (.inr 0))]) tX8_inOrder_121 (by decide) rfl ?_
              refine pr_aload_n tX8_inOrder_123 5 rfl ?_
              refine pr_geta (j := 4) tX8_inOrder_124 rfl rfl rfl rfl ?_
              refine pr_iload tX8_inOrder_127 0 rfl ?_
              refine pr_ial tX8_inOrder_129 (12 * c + A.p) rfl rfl (hi) (by decide) ?_
              refine pR_topi (y := (nI (B.lf (12 * c + A.p)))) (kd2) ?_
              refine pr_istore (L' := [(6, .inl (nI (B.lf (12 * c + A.p)))), (5, .inl (nI (12 * c + A.p))), (4, .inl (nI A.p)), (3, .inl (nI 0)), (2, .inl (nI c)), (1, .inl (nI k)), (0, .inr (.inr 0))]) tX8_inOrder_130 (by decide) rfl ?_
              refine pr_aload_n tX8_inOrder_132 6 rfl ?_
              refine pr_geta (j := 5) tX8_inOrder_133 rfl rfl rfl rfl ?_
              refine pr_iload tX8_inOrder_136 1 rfl ?_
              refine pr_ial tX8_inOrder_138 (12 * c + A.p) rfl rfl (hi) (by decide) ?_
              refine pR_topi (y := (nI (B.rt (12 * c + A.p)))) (kd3) ?_
              refine pr_istore (L' := [(7, .inl (nI (B.rt (12 * c + A.p)))), (6, .inl (nI (B.lf (12 * c + A.p)))), (5, .inl (nI (12 * c + A.p))), (4, .inl (nI A.p)), (3, .inl (nI 0)), (2, .inl (nI c)), (1, .inl (nI k)), (0, .inr (.inr 0))]) tX8_inOrder_139 (by decide) rfl ?_
              refine pr_aload_n tX8_inOrder_141 7 rfl ?_
              refine pr_geta (j := 3) tX8_inOrder_142 rfl rfl rfl rfl ?_
              refine pr_iload tX8_inOrder_145 2 rfl ?_
              refine pr_ial tX8_inOrder_147 (12 * c + A.p) rfl rfl (hi) (by decide) ?_
              refine pR_topi (y := (nI 6)) (kd1.trans (by rw [hk])) ?_
              refine pr_istore (L' := [(8, .inl (nI 6)), (7, .inl (nI (B.rt (12 * c + A.p)))), (6, .inl (nI (B.lf (12 * c + A.p)))), (5, .inl (nI (12 * c + A.p))), (4, .inl (nI A.p)), (3, .inl (nI 0)), (2, .inl (nI c)), (1, .inl (nI k)), (0, .inr (.inr 0))]) tX8_inOrder_148 (by decide) rfl ?_
              refine pr_aload_n tX8_inOrder_150 8 rfl ?_
              refine pr_geta (j := 6) tX8_inOrder_151 rfl rfl rfl rfl ?_
              refine pr_iload tX8_inOrder_154 3 rfl ?_
              refine pr_lal tX8_inOrder_156 (12 * c + A.p) rfl rfl (hi) (by decide) ?_
              refine pR_topl (y := B.vl (12 * c + A.p)) ((congrFun (pl_o (J := σ.2) (f := f) (g := g) (r := r) (x := 6) (by decide)) _).trans kd4) ?_
              refine pr_aload_n tX8_inOrder_157 8 rfl ?_
              refine pr_geta (j := 43) tX8_inOrder_158 rfl rfl rfl rfl ?_
              refine pr_iload tX8_inOrder_161 1 rfl ?_
              refine pr_lal tX8_inOrder_163 (B.rt (12 * c + A.p)) rfl rfl (k2) (by decide) ?_
              refine pR_topl (y := r (B.rt (12 * c + A.p))) (pl_r3 (J := σ.2) (f := f) (g := g) (r := r) k2) ?_
              refine pr_ladd (v := ((B.vl (12 * c + A.p)) + (r (B.rt (12 * c + A.p))))) tX8_inOrder_164 (rfl) ?_
              refine pr_callS tX8_inOrder_165 rfl ⟨Nat.le_of_ble_eq_true rfl, Nat.le_of_ble_eq_true rfl, rfl⟩ ((ev_X8_leafOf _ _).trans (by rw [leafM])) ?_
              refine pR_eq (st' := [.inl (nI (lfA (B.vl (12 * c + A.p) + r (B.rt (12 * c + A.p)))))]) rfl rfl ?_
              refine pr_istore (L' := [(9, .inl (nI (lfA (B.vl (12 * c + A.p) + r (B.rt (12 * c + A.p)))))), (8, .inl (nI 6)), (7, .inl (nI (B.rt (12 * c + A.p)))), (6, .inl (nI (B.lf (12 * c + A.p)))), (5, .inl (nI (12 * c + A.p))), (4, .inl (nI A.p)), (3, .inl (nI 0)), (2, .inl (nI c)), (1, .inl (nI k)), (0, .inr (.inr 0))]) tX8_inOrder_168 (by decide) rfl ?_
              refine pr_iload tX8_inOrder_170 1 rfl ?_
              refine pr_if_ne (pc' := 192) tX8_inOrder_172 rfl (fun hc172 => ?_) (fun hc172 => ?_)
              · skip
                refine pr_iload tX8_inOrder_192 1 rfl ?_
                refine pr_iconst (v := nI 1) tX8_inOrder_194 rfl ?_
                refine pr_ic_ne (pc' := 215) tX8_inOrder_195 rfl (fun hc195 => ?_) (fun hc195 => ?_)
                · skip
                  refine pr_iload tX8_inOrder_215 1 rfl ?_
                  refine pr_iconst (v := nI 2) tX8_inOrder_217 rfl ?_
                  refine pr_ic_ne (pc' := 238) tX8_inOrder_218 rfl (fun hc218 => ?_) (fun hc218 => ?_)
                  · skip
                    refine pr_iload tX8_inOrder_238 1 rfl ?_
                    refine pr_iconst (v := nI 3) tX8_inOrder_240 rfl ?_
                    refine pr_ic_ne (pc' := 264) tX8_inOrder_241 rfl (fun hc241 => ?_) (fun hc241 => ?_)
                    · skip
                      refine pr_iload tX8_inOrder_264 1 rfl ?_
                      refine pr_iconst (v := nI 4) tX8_inOrder_266 rfl ?_
                      refine pr_ic_ne (pc' := 290) tX8_inOrder_267 rfl (fun hc267 => ?_) (fun hc267 => ?_)
                      · skip
                        refine pr_iload tX8_inOrder_290 1 rfl ?_
                        refine pr_iconst (v := nI 5) tX8_inOrder_292 rfl ?_
                        refine pr_ic_ne (pc' := 316) tX8_inOrder_293 rfl (fun hc293 => ?_) (fun hc293 => ?_)
                        · skip
                          refine pr_iload tX8_inOrder_316 1 rfl ?_
                          refine pr_bipush (v := nI 6) tX8_inOrder_318 rfl ?_
                          refine pr_ic_ne (pc' := 357) tX8_inOrder_320 rfl (fun hc320 => ?_) (fun hc320 => ?_)
                          · skip
                            exact absurd hc320 (by decide)
                          · skip
                            refine pr_aload_n tX8_inOrder_323 9 rfl ?_
                            refine pr_geta (j := 43) tX8_inOrder_324 rfl rfl rfl rfl ?_
                            refine pr_iload tX8_inOrder_327 3 rfl ?_
                            refine pr_lal tX8_inOrder_329 (B.lf (12 * c + A.p)) rfl rfl (k1) (by decide) ?_
                            refine pR_topl (y := r (B.lf (12 * c + A.p))) (pl_r3 (J := σ.2) (f := f) (g := g) (r := r) k1) ?_
                            refine pr_aload_n tX8_inOrder_330 9 rfl ?_
                            refine pr_geta (j := 43) tX8_inOrder_331 rfl rfl rfl rfl ?_
                            refine pr_iload tX8_inOrder_334 2 rfl ?_
                            refine pr_lal tX8_inOrder_336 (B.rt (12 * c + A.p)) rfl rfl (k2) (by decide) ?_
                            refine pR_topl (y := r (B.rt (12 * c + A.p))) (pl_r3 (J := σ.2) (f := f) (g := g) (r := r) k2) ?_
                            refine pr_lcmp tX8_inOrder_337 ?_
                            refine pr_if_ge (pc' := 357) tX8_inOrder_338 rfl (fun hc338 => ?_) (fun hc338 => ?_)
                            · skip
                              skip
                              refine pr_iload tX8_inOrder_357 1 rfl ?_
                              refine pr_bipush (v := nI 8) tX8_inOrder_359 rfl ?_
                              refine pr_ic_ne (pc' := 378) tX8_inOrder_361 rfl (fun hc361 => ?_) (fun hc361 => ?_)
                              · skip
                                refine pr_iinc (v := (nI (A.p + 1))) (L' := [(4, .inl (nI (A.p + 1))), (9, .inl (nI (lfA (B.vl (12 * c + A.p) + r (B.rt (12 * c + A.p)))))), (8, .inl (nI 6)), (7, .inl (nI (B.rt (12 * c + A.p)))), (6, .inl (nI (B.lf (12 * c + A.p)))), (5, .inl (nI (12 * c + A.p))), (3, .inl (nI 0)), (2, .inl (nI c)), (1, .inl (nI k)), (0, .inr (.inr 0))]) tX8_inOrder_378 5 rfl (nI_1 _) (by decide) rfl ?_
                                refine pr_goto (pc' := 99) tX8_inOrder_381 rfl ?_
                                refine pR_sub (L' := [(4, .inl (nI (A.p + 1))), (3, .inl (nI 0)), (2, .inl (nI c)), (1, .inl (nI k)), (0, .inr (.inr 0))]) [0, 6, 7, 8, 9] rfl ?_
                                have z := ih (doA B T c A).2 g r u1 hok2 hpm K2
                                rw [u2, u3] at z
                                exact z
                              · skip
                                exact absurd (by decide) hc361
                            · skip
                              exact absurd (Int32.not_lt.mp hw) hc338
                        · skip
                          exact absurd (by decide) hc293
                      · skip
                        exact absurd (by decide) hc267
                    · skip
                      exact absurd (by decide) hc241
                  · skip
                    exact absurd (by decide) hc218
                · skip
                  exact absurd (by decide) hc195
              · skip
                exact absurd (by decide) hc172
      · have hk : B.kd (12 * c + A.p) = 7 := hkd
        obtain ⟨u1, u2, u3⟩ := pi_k7 hB hT hi ei h hf hk
        refine pr_iload tX8_inOrder_99 0 rfl ?_
        refine pr_aload_n tX8_inOrder_101 4 rfl ?_
        refine pr_geta (j := 2) tX8_inOrder_102 rfl rfl rfl rfl ?_
        refine pr_iload_n tX8_inOrder_105 2 rfl ?_
        refine pr_ial tX8_inOrder_106 c rfl rfl (by omega) (by decide) ?_
        refine pR_topi (y := (nI (B.ac c))) (hbk.ac c hc16) ?_
        refine pr_ic_ge (pc' := 384) tX8_inOrder_107 rfl (fun hc107 => ?_) (fun hc107 => ?_)
        · skip
          exact absurd ((nI_leI (by omega) (by omega)).mp hc107) (by omega)
        · skip
          have hc107 : ¬ (B.ac c) ≤ A.p := fun z9 => hc107 ((nI_leI (by omega) (by omega)).mpr z9)
          refine pr_iload_n tX8_inOrder_110 1 rfl ?_
          refine pr_if_ne (pc' := 384) tX8_inOrder_111 rfl (fun hc111 => ?_) (fun hc111 => ?_)
          · skip
            exact absurd hc111 (by decide)
          · skip
            refine pr_bipush (v := nI 12) tX8_inOrder_114 rfl ?_
            refine pr_iload_n tX8_inOrder_116 2 rfl ?_
            refine pr_imul (v := (nI (12 * c))) tX8_inOrder_117 (pk_mul _ _) ?_
            refine pr_iload tX8_inOrder_118 0 rfl ?_
            refine pr_iadd (v := (nI (12 * c + A.p))) tX8_inOrder_120 (nI_add _ _) ?_
            refine pr_istore (L' := [(5, .inl (nI (12 * c + A.p))), (4, .inl (nI A.p)), (3, .inl (nI 0)), (2, .inl (nI c)), (1, .inl (nI k)), (0, .inr (.inr 0))]) tX8_inOrder_121 (by decide) rfl ?_
            refine pr_aload_n tX8_inOrder_123 5 rfl ?_
            refine pr_geta (j := 4) tX8_inOrder_124 rfl rfl rfl rfl ?_
            refine pr_iload tX8_inOrder_127 0 rfl ?_
            refine pr_ial tX8_inOrder_129 (12 * c + A.p) rfl rfl (hi) (by decide) ?_
            refine pR_topi (y := (nI (B.lf (12 * c + A.p)))) (kd2) ?_
            refine pr_istore (L' := [(6, .inl (nI (B.lf (12 * c + A.p)))), (5, .inl (nI (12 * c + A.p))), (4, .inl (nI A.p)), (3, .inl (nI 0)), (2, .inl (nI c)), (1, .inl (nI k)), (0, .inr (.inr 0))]) tX8_inOrder_130 (by decide) rfl ?_
            refine pr_aload_n tX8_inOrder_132 6 rfl ?_
            refine pr_geta (j := 5) tX8_inOrder_133 rfl rfl rfl rfl ?_
            refine pr_iload tX8_inOrder_136 1 rfl ?_
            refine pr_ial tX8_inOrder_138 (12 * c + A.p) rfl rfl (hi) (by decide) ?_
            refine pR_topi (y := (nI (B.rt (12 * c + A.p)))) (kd3) ?_
            refine pr_istore (L' := [(7, .inl (nI (B.rt (12 * c + A.p)))), (6, .inl (nI (B.lf (12 * c + A.p)))), (5, .inl (nI (12 * c + A.p))), (4, .inl (nI A.p)), (3, .inl (nI 0)), (2, .inl (nI c)), (1, .inl (nI k)), (0, .inr (.inr 0))]) tX8_inOrder_139 (by decide) rfl ?_
            refine pr_aload_n tX8_inOrder_141 7 rfl ?_
            refine pr_geta (j := 3) tX8_inOrder_142 rfl rfl rfl rfl ?_
            refine pr_iload tX8_inOrder_145 2 rfl ?_
            refine pr_ial tX8_inOrder_147 (12 * c + A.p) rfl rfl (hi) (by decide) ?_
            refine pR_topi (y := (nI 7)) (kd1.trans (by rw [hk])) ?_
            refine pr_istore (L' := [(8, .inl (nI 7)), (7, .inl (nI (B.rt (12 * c + A.p)))), (6, .inl (nI (B.lf (12 * c + A.p)))), (5, .inl (nI (12 * c + A.p))), (4, .inl (nI A.p)), (3, .inl (nI 0)), (2, .inl (nI c)), (1, .inl (nI k)), (0, .inr (.inr 0))]) tX8_inOrder_148 (by decide) rfl ?_
            refine pr_aload_n tX8_inOrder_150 8 rfl ?_
            refine pr_geta (j := 6) tX8_inOrder_151 rfl rfl rfl rfl ?_
            refine pr_iload tX8_inOrder_154 3 rfl ?_
            refine pr_lal tX8_inOrder_156 (12 * c + A.p) rfl rfl (hi) (by decide) ?_
            refine pR_topl (y := B.vl (12 * c + A.p)) ((congrFun (pl_o (J := σ.2) (f := f) (g := g) (r := r) (x := 6) (by decide)) _).trans kd4) ?_
            refine pr_aload_n tX8_inOrder_157 8 rfl ?_
            refine pr_geta (j := 43) tX8_inOrder_158 rfl rfl rfl rfl ?_
            refine pr_iload tX8_inOrder_161 1 rfl ?_
            refine pr_lal tX8_inOrder_163 (B.rt (12 * c + A.p)) rfl rfl (k2) (by decide) ?_
            refine pR_topl (y := r (B.rt (12 * c + A.p))) (pl_r3 (J := σ.2) (f := f) (g := g) (r := r) k2) ?_
            refine pr_ladd (v := ((B.vl (12 * c + A.p)) + (r (B.rt (12 * c + A.p))))) tX8_inOrder_164 (rfl) ?_
            refine pr_callS tX8_inOrder_165 rfl ⟨Nat.le_of_ble_eq_true rfl, Nat.le_of_ble_eq_true rfl, rfl⟩ ((ev_X8_leafOf _ _).trans (by rw [leafM])) ?_
            refine pR_eq (st' := [.inl (nI (lfA (B.vl (12 * c + A.p) + r (B.rt (12 * c + A.p)))))]) rfl rfl ?_
            refine pr_istore (L' := [(9, .inl (nI (lfA (B.vl (12 * c + A.p) + r (B.rt (12 * c + A.p)))))), (8, .inl (nI 7)), (7, .inl (nI (B.rt (12 * c + A.p)))), (6, .inl (nI (B.lf (12 * c + A.p)))), (5, .inl (nI (12 * c + A.p))), (4, .inl (nI A.p)), (3, .inl (nI 0)), (2, .inl (nI c)), (1, .inl (nI k)), (0, .inr (.inr 0))]) tX8_inOrder_168 (by decide) rfl ?_
            refine pr_iload tX8_inOrder_170 1 rfl ?_
            refine pr_if_ne (pc' := 192) tX8_inOrder_172 rfl (fun hc172 => ?_) (fun hc172 => ?_)
            · skip
              refine pr_iload tX8_inOrder_192 1 rfl ?_
              refine pr_iconst (v := nI 1) tX8_inOrder_194 rfl ?_
              refine pr_ic_ne (pc' := 215) tX8_inOrder_195 rfl (fun hc195 => ?_) (fun hc195 => ?_)
              · skip
                refine pr_iload tX8_inOrder_215 1 rfl ?_
                refine pr_iconst (v := nI 2) tX8_inOrder_217 rfl ?_
                refine pr_ic_ne (pc' := 238) tX8_inOrder_218 rfl (fun hc218 => ?_) (fun hc218 => ?_)
                · skip
                  refine pr_iload tX8_inOrder_238 1 rfl ?_
                  refine pr_iconst (v := nI 3) tX8_inOrder_240 rfl ?_
                  refine pr_ic_ne (pc' := 264) tX8_inOrder_241 rfl (fun hc241 => ?_) (fun hc241 => ?_)
                  · skip
                    refine pr_iload tX8_inOrder_264 1 rfl ?_
                    refine pr_iconst (v := nI 4) tX8_inOrder_266 rfl ?_
                    refine pr_ic_ne (pc' := 290) tX8_inOrder_267 rfl (fun hc267 => ?_) (fun hc267 => ?_)
                    · skip
                      refine pr_iload tX8_inOrder_290 1 rfl ?_
                      refine pr_iconst (v := nI 5) tX8_inOrder_292 rfl ?_
                      refine pr_ic_ne (pc' := 316) tX8_inOrder_293 rfl (fun hc293 => ?_) (fun hc293 => ?_)
                      · skip
                        refine pr_iload tX8_inOrder_316 1 rfl ?_
                        refine pr_bipush (v := nI 6) tX8_inOrder_318 rfl ?_
                        refine pr_ic_ne (pc' := 357) tX8_inOrder_320 rfl (fun hc320 => ?_) (fun hc320 => ?_)
                        · skip
                          refine pr_iload tX8_inOrder_357 1 rfl ?_
                          refine pr_bipush (v := nI 8) tX8_inOrder_359 rfl ?_
                          refine pr_ic_ne (pc' := 378) tX8_inOrder_361 rfl (fun hc361 => ?_) (fun hc361 => ?_)
                          · skip
                            refine pr_iinc (v := (nI (A.p + 1))) (L' := [(4, .inl (nI (A.p + 1))), (9, .inl (nI (lfA (B.vl (12 * c + A.p) + r (B.rt (12 * c + A.p)))))), (8, .inl (nI 7)), (7, .inl (nI (B.rt (12 * c + A.p)))), (6, .inl (nI (B.lf (12 * c + A.p)))), (5, .inl (nI (12 * c + A.p))), (3, .inl (nI 0)), (2, .inl (nI c)), (1, .inl (nI k)), (0, .inr (.inr 0))]) tX8_inOrder_378 5 rfl (nI_1 _) (by decide) rfl ?_
                            refine pr_goto (pc' := 99) tX8_inOrder_381 rfl ?_
                            refine pR_sub (L' := [(4, .inl (nI (A.p + 1))), (3, .inl (nI 0)), (2, .inl (nI c)), (1, .inl (nI k)), (0, .inr (.inr 0))]) [0, 6, 7, 8, 9] rfl ?_
                            have z := ih (doA B T c A).2 g r u1 hok2 hpm K2
                            rw [u2, u3] at z
                            exact z
                          · skip
                            exact absurd (by decide) hc361
                        · skip
                          exact absurd (by decide) hc320
                      · skip
                        exact absurd (by decide) hc293
                    · skip
                      exact absurd (by decide) hc267
                  · skip
                    exact absurd (by decide) hc241
                · skip
                  exact absurd (by decide) hc218
              · skip
                exact absurd (by decide) hc195
            · skip
              exact absurd (by decide) hc172
      · have hk : B.kd (12 * c + A.p) = 8 := hkd
        by_cases hw : lg_cmp (r (B.lf (12 * c + A.p))) (0) < 0
        · skip
          obtain ⟨u1, u2, u3⟩ := pi_k8t hB hT hi ei h hf hk hw
          refine pr_iload tX8_inOrder_99 0 rfl ?_
          refine pr_aload_n tX8_inOrder_101 4 rfl ?_
          refine pr_geta (j := 2) tX8_inOrder_102 rfl rfl rfl rfl ?_
          refine pr_iload_n tX8_inOrder_105 2 rfl ?_
          refine pr_ial tX8_inOrder_106 c rfl rfl (by omega) (by decide) ?_
          refine pR_topi (y := (nI (B.ac c))) (hbk.ac c hc16) ?_
          refine pr_ic_ge (pc' := 384) tX8_inOrder_107 rfl (fun hc107 => ?_) (fun hc107 => ?_)
          · skip
            exact absurd ((nI_leI (by omega) (by omega)).mp hc107) (by omega)
          · skip
            have hc107 : ¬ (B.ac c) ≤ A.p := fun z9 => hc107 ((nI_leI (by omega) (by omega)).mpr z9)
            refine pr_iload_n tX8_inOrder_110 1 rfl ?_
            refine pr_if_ne (pc' := 384) tX8_inOrder_111 rfl (fun hc111 => ?_) (fun hc111 => ?_)
            · skip
              exact absurd hc111 (by decide)
            · skip
              refine pr_bipush (v := nI 12) tX8_inOrder_114 rfl ?_
              refine pr_iload_n tX8_inOrder_116 2 rfl ?_
              refine pr_imul (v := (nI (12 * c))) tX8_inOrder_117 (pk_mul _ _) ?_
              refine pr_iload tX8_inOrder_118 0 rfl ?_
              refine pr_iadd (v := (nI (12 * c + A.p))) tX8_inOrder_120 (nI_add _ _) ?_
              refine pr_istore (L' := [(5, .inl (nI (12 * c + A.p))), (4, .inl (nI A.p)), (3, .inl (nI 0)), (2, .inl (nI c)), (1, .inl (nI k)), (0, .inr (.inr 0))]) tX8_inOrder_121 (by decide) rfl ?_
              refine pr_aload_n tX8_inOrder_123 5 rfl ?_
              refine pr_geta (j := 4) tX8_inOrder_124 rfl rfl rfl rfl ?_
              refine pr_iload tX8_inOrder_127 0 rfl ?_
              refine pr_ial tX8_inOrder_129 (12 * c + A.p) rfl rfl (hi) (by decide) ?_
              refine pR_topi (y := (nI (B.lf (12 * c + A.p)))) (kd2) ?_
              refine pr_istore (L' := [(6, .inl (nI (B.lf (12 * c + A.p)))), (5, .inl (nI (12 * c + A.p))), (4, .inl (nI A.p)), (3, .inl (nI 0)), (2, .inl (nI c)), (1, .inl (nI k)), (0, .inr (.inr 0))]) tX8_inOrder_130 (by decide) rfl ?_
              refine pr_aload_n tX8_inOrder_132 6 rfl ?_
              refine pr_geta (j := 5) tX8_inOrder_133 rfl rfl rfl rfl ?_
              refine pr_iload tX8_inOrder_136 1 rfl ?_
              refine pr_ial tX8_inOrder_138 (12 * c + A.p) rfl rfl (hi) (by decide) ?_
              refine pR_topi (y := (nI (B.rt (12 * c + A.p)))) (kd3) ?_
              refine pr_istore (L' := [(7, .inl (nI (B.rt (12 * c + A.p)))), (6, .inl (nI (B.lf (12 * c + A.p)))), (5, .inl (nI (12 * c + A.p))), (4, .inl (nI A.p)), (3, .inl (nI 0)), (2, .inl (nI c)), (1, .inl (nI k)), (0, .inr (.inr 0))]) tX8_inOrder_139 (by decide) rfl ?_
              refine pr_aload_n tX8_inOrder_141 7 rfl ?_
              refine pr_geta (j := 3) tX8_inOrder_142 rfl rfl rfl rfl ?_
              refine pr_iload tX8_inOrder_145 2 rfl ?_
              refine pr_ial tX8_inOrder_147 (12 * c + A.p) rfl rfl (hi) (by decide) ?_
              refine pR_topi (y := (nI 8)) (kd1.trans (by rw [hk])) ?_
              refine pr_istore (L' := [(8, .inl (nI 8)), (7, .inl (nI (B.rt (12 * c + A.p)))), (6, .inl (nI (B.lf (12 * c + A.p)))), (5, .inl (nI (12 * c + A.p))), (4, .inl (nI A.p)), (3, .inl (nI 0)), (2, .inl (nI c)), (1, .inl (nI k)), (0, .inr (.inr 0))]) tX8_inOrder_148 (by decide) rfl ?_
              refine pr_aload_n tX8_inOrder_150 8 rfl ?_
              refine pr_geta (j := 6) tX8_inOrder_151 rfl rfl rfl rfl ?_
              refine pr_iload tX8_inOrder_154 3 rfl ?_
              refine pr_lal tX8_inOrder_156 (12 * c + A.p) rfl rfl (hi) (by decide) ?_
              refine pR_topl (y := B.vl (12 * c + A.p)) ((congrFun (pl_o (J := σ.2) (f := f) (g := g) (r := r) (x := 6) (by decide)) _).trans kd4) ?_
              refine pr_aload_n tX8_inOrder_157 8 rfl ?_
              refine pr_geta (j := 43) tX8_inOrder_158 rfl rfl rfl rfl ?_
              refine pr_iload tX8_inOrder_161 1 rfl ?_
              refine pr_lal tX8_inOrder_163 (B.rt (12 * c + A.p)) rfl rfl (k2) (by decide) ?_
              refine pR_topl (y := r (B.rt (12 * c + A.p))) (pl_r3 (J := σ.2) (f := f) (g := g) (r := r) k2) ?_
              refine pr_ladd (v := ((B.vl (12 * c + A.p)) + (r (B.rt (12 * c + A.p))))) tX8_inOrder_164 (rfl) ?_
              refine pr_callS tX8_inOrder_165 rfl ⟨Nat.le_of_ble_eq_true rfl, Nat.le_of_ble_eq_true rfl, rfl⟩ ((ev_X8_leafOf _ _).trans (by rw [leafM])) ?_
              refine pR_eq (st' := [.inl (nI (lfA (B.vl (12 * c + A.p) + r (B.rt (12 * c + A.p)))))]) rfl rfl ?_
              refine pr_istore (L' := [(9, .inl (nI (lfA (B.vl (12 * c + A.p) + r (B.rt (12 * c + A.p)))))), (8, .inl (nI 8)), (7, .inl (nI (B.rt (12 * c + A.p)))), (6, .inl (nI (B.lf (12 * c + A.p)))), (5, .inl (nI (12 * c + A.p))), (4, .inl (nI A.p)), (3, .inl (nI 0)), (2, .inl (nI c)), (1, .inl (nI k)), (0, .inr (.inr 0))]) tX8_inOrder_168 (by decide) rfl ?_
              refine pr_iload tX8_inOrder_170 1 rfl ?_
              refine pr_if_ne (pc' := 192) tX8_inOrder_172 rfl (fun hc172 => ?_) (fun hc172 => ?_)
              · skip
                refine pr_iload tX8_inOrder_192 1 rfl ?_
                refine pr_iconst (v := nI 1) tX8_inOrder_194 rfl ?_
                refine pr_ic_ne (pc' := 215) tX8_inOrder_195 rfl (fun hc195 => ?_) (fun hc195 => ?_)
                · skip
                  refine pr_iload tX8_inOrder_215 1 rfl ?_
                  refine pr_iconst (v := nI 2) tX8_inOrder_217 rfl ?_
                  refine pr_ic_ne (pc' := 238) tX8_inOrder_218 rfl (fun hc218 => ?_) (fun hc218 => ?_)
                  · skip
                    refine pr_iload tX8_inOrder_238 1 rfl ?_
                    refine pr_iconst (v := nI 3) tX8_inOrder_240 rfl ?_
                    refine pr_ic_ne (pc' := 264) tX8_inOrder_241 rfl (fun hc241 => ?_) (fun hc241 => ?_)
                    · skip
                      refine pr_iload tX8_inOrder_264 1 rfl ?_
                      refine pr_iconst (v := nI 4) tX8_inOrder_266 rfl ?_
                      refine pr_ic_ne (pc' := 290) tX8_inOrder_267 rfl (fun hc267 => ?_) (fun hc267 => ?_)
                      · skip
                        refine pr_iload tX8_inOrder_290 1 rfl ?_
                        refine pr_iconst (v := nI 5) tX8_inOrder_292 rfl ?_
                        refine pr_ic_ne (pc' := 316) tX8_inOrder_293 rfl (fun hc293 => ?_) (fun hc293 => ?_)
                        · skip
                          refine pr_iload tX8_inOrder_316 1 rfl ?_
                          refine pr_bipush (v := nI 6) tX8_inOrder_318 rfl ?_
                          refine pr_ic_ne (pc' := 357) tX8_inOrder_320 rfl (fun hc320 => ?_) (fun hc320 => ?_)
                          · skip
                            refine pr_iload tX8_inOrder_357 1 rfl ?_
                            refine pr_bipush (v := nI 8) tX8_inOrder_359 rfl ?_
                            refine pr_ic_ne (pc' := 378) tX8_inOrder_361 rfl (fun hc361 => ?_) (fun hc361 => ?_)
                            · skip
                              exact absurd hc361 (by decide)
                            · skip
                              refine pr_aload_n tX8_inOrder_364 9 rfl ?_
                              refine pr_geta (j := 43) tX8_inOrder_365 rfl rfl rfl rfl ?_
                              refine pr_iload tX8_inOrder_368 3 rfl ?_
                              refine pr_lal tX8_inOrder_370 (B.lf (12 * c + A.p)) rfl rfl (k1) (by decide) ?_
                              refine pR_topl (y := r (B.lf (12 * c + A.p))) (pl_r3 (J := σ.2) (f := f) (g := g) (r := r) k1) ?_
                              refine pr_lconst (v := 0) tX8_inOrder_371 rfl ?_
                              refine pr_lcmp tX8_inOrder_372 ?_
                              refine pr_if_ge (pc' := 378) tX8_inOrder_373 rfl (fun hc373 => ?_) (fun hc373 => ?_)
                              · skip
                                exact absurd hw (Int32.not_lt.mpr hc373)
                              · skip
                                skip
                                refine pr_iconst (v := nI 1) tX8_inOrder_376 rfl ?_
                                refine pr_istore_n (L' := [(3, .inl (nI 1)), (9, .inl (nI (lfA (B.vl (12 * c + A.p) + r (B.rt (12 * c + A.p)))))), (8, .inl (nI 8)), (7, .inl (nI (B.rt (12 * c + A.p)))), (6, .inl (nI (B.lf (12 * c + A.p)))), (5, .inl (nI (12 * c + A.p))), (4, .inl (nI A.p)), (2, .inl (nI c)), (1, .inl (nI k)), (0, .inr (.inr 0))]) tX8_inOrder_377 (by decide) rfl ?_
                                refine pr_iinc (v := (nI (A.p + 1))) (L' := [(4, .inl (nI (A.p + 1))), (3, .inl (nI 1)), (9, .inl (nI (lfA (B.vl (12 * c + A.p) + r (B.rt (12 * c + A.p)))))), (8, .inl (nI 8)), (7, .inl (nI (B.rt (12 * c + A.p)))), (6, .inl (nI (B.lf (12 * c + A.p)))), (5, .inl (nI (12 * c + A.p))), (2, .inl (nI c)), (1, .inl (nI k)), (0, .inr (.inr 0))]) tX8_inOrder_378 6 rfl (nI_1 _) (by decide) rfl ?_
                                refine pr_goto (pc' := 99) tX8_inOrder_381 rfl ?_
                                refine pR_sub (L' := [(4, .inl (nI (A.p + 1))), (3, .inl (nI 1)), (2, .inl (nI c)), (1, .inl (nI k)), (0, .inr (.inr 0))]) [0, 1, 7, 8, 9] rfl ?_
                                have z := ih (doA B T c A).2 g r u1 hok2 hpm K2
                                rw [u2, u3] at z
                                exact z
                          · skip
                            exact absurd (by decide) hc320
                        · skip
                          exact absurd (by decide) hc293
                      · skip
                        exact absurd (by decide) hc267
                    · skip
                      exact absurd (by decide) hc241
                  · skip
                    exact absurd (by decide) hc218
                · skip
                  exact absurd (by decide) hc195
              · skip
                exact absurd (by decide) hc172
        · skip
          obtain ⟨u1, u2, u3⟩ := pi_k8f hB hT hi ei h hf hk hw
          refine pr_iload tX8_inOrder_99 0 rfl ?_
          refine pr_aload_n tX8_inOrder_101 4 rfl ?_
          refine pr_geta (j := 2) tX8_inOrder_102 rfl rfl rfl rfl ?_
          refine pr_iload_n tX8_inOrder_105 2 rfl ?_
          refine pr_ial tX8_inOrder_106 c rfl rfl (by omega) (by decide) ?_
          refine pR_topi (y := (nI (B.ac c))) (hbk.ac c hc16) ?_
          refine pr_ic_ge (pc' := 384) tX8_inOrder_107 rfl (fun hc107 => ?_) (fun hc107 => ?_)
          · skip
            exact absurd ((nI_leI (by omega) (by omega)).mp hc107) (by omega)
          · skip
            have hc107 : ¬ (B.ac c) ≤ A.p := fun z9 => hc107 ((nI_leI (by omega) (by omega)).mpr z9)
            refine pr_iload_n tX8_inOrder_110 1 rfl ?_
            refine pr_if_ne (pc' := 384) tX8_inOrder_111 rfl (fun hc111 => ?_) (fun hc111 => ?_)
            · skip
              exact absurd hc111 (by decide)
            · skip
              refine pr_bipush (v := nI 12) tX8_inOrder_114 rfl ?_
              refine pr_iload_n tX8_inOrder_116 2 rfl ?_
              refine pr_imul (v := (nI (12 * c))) tX8_inOrder_117 (pk_mul _ _) ?_
              refine pr_iload tX8_inOrder_118 0 rfl ?_
              refine pr_iadd (v := (nI (12 * c + A.p))) tX8_inOrder_120 (nI_add _ _) ?_
              refine pr_istore (L' := [(5, .inl (nI (12 * c + A.p))), (4, .inl (nI A.p)), (3, .inl (nI 0)), (2, .inl (nI c)), (1, .inl (nI k)), (0, .inr (.inr 0))]) tX8_inOrder_121 (by decide) rfl ?_
              refine pr_aload_n tX8_inOrder_123 5 rfl ?_
              refine pr_geta (j := 4) tX8_inOrder_124 rfl rfl rfl rfl ?_
              refine pr_iload tX8_inOrder_127 0 rfl ?_
              refine pr_ial tX8_inOrder_129 (12 * c + A.p) rfl rfl (hi) (by decide) ?_
              refine pR_topi (y := (nI (B.lf (12 * c + A.p)))) (kd2) ?_
              refine pr_istore (L' := [(6, .inl (nI (B.lf (12 * c + A.p)))), (5, .inl (nI (12 * c + A.p))), (4, .inl (nI A.p)), (3, .inl (nI 0)), (2, .inl (nI c)), (1, .inl (nI k)), (0, .inr (.inr 0))]) tX8_inOrder_130 (by decide) rfl ?_
              refine pr_aload_n tX8_inOrder_132 6 rfl ?_
              refine pr_geta (j := 5) tX8_inOrder_133 rfl rfl rfl rfl ?_
              refine pr_iload tX8_inOrder_136 1 rfl ?_
              refine pr_ial tX8_inOrder_138 (12 * c + A.p) rfl rfl (hi) (by decide) ?_
              refine pR_topi (y := (nI (B.rt (12 * c + A.p)))) (kd3) ?_
              refine pr_istore (L' := [(7, .inl (nI (B.rt (12 * c + A.p)))), (6, .inl (nI (B.lf (12 * c + A.p)))), (5, .inl (nI (12 * c + A.p))), (4, .inl (nI A.p)), (3, .inl (nI 0)), (2, .inl (nI c)), (1, .inl (nI k)), (0, .inr (.inr 0))]) tX8_inOrder_139 (by decide) rfl ?_
              refine pr_aload_n tX8_inOrder_141 7 rfl ?_
              refine pr_geta (j := 3) tX8_inOrder_142 rfl rfl rfl rfl ?_
              refine pr_iload tX8_inOrder_145 2 rfl ?_
              refine pr_ial tX8_inOrder_147 (12 * c + A.p) rfl rfl (hi) (by decide) ?_
              refine pR_topi (y := (nI 8)) (kd1.trans (by rw [hk])) ?_
              refine pr_istore (L' := [(8, .inl (nI 8)), (7, .inl (nI (B.rt (12 * c + A.p)))), (6, .inl (nI (B.lf (12 * c + A.p)))), (5, .inl (nI (12 * c + A.p))), (4, .inl (nI A.p)), (3, .inl (nI 0)), (2, .inl (nI c)), (1, .inl (nI k)), (0, .inr (.inr 0))]) tX8_inOrder_148 (by decide) rfl ?_
              refine pr_aload_n tX8_inOrder_150 8 rfl ?_
              refine pr_geta (j := 6) tX8_inOrder_151 rfl rfl rfl rfl ?_
              refine pr_iload tX8_inOrder_154 3 rfl ?_
              refine pr_lal tX8_inOrder_156 (12 * c + A.p) rfl rfl (hi) (by decide) ?_
              refine pR_topl (y := B.vl (12 * c + A.p)) ((congrFun (pl_o (J := σ.2) (f := f) (g := g) (r := r) (x := 6) (by decide)) _).trans kd4) ?_
              refine pr_aload_n tX8_inOrder_157 8 rfl ?_
              refine pr_geta (j := 43) tX8_inOrder_158 rfl rfl rfl rfl ?_
              refine pr_iload tX8_inOrder_161 1 rfl ?_
              refine pr_lal tX8_inOrder_163 (B.rt (12 * c + A.p)) rfl rfl (k2) (by decide) ?_
              refine pR_topl (y := r (B.rt (12 * c + A.p))) (pl_r3 (J := σ.2) (f := f) (g := g) (r := r) k2) ?_
              refine pr_ladd (v := ((B.vl (12 * c + A.p)) + (r (B.rt (12 * c + A.p))))) tX8_inOrder_164 (rfl) ?_
              refine pr_callS tX8_inOrder_165 rfl ⟨Nat.le_of_ble_eq_true rfl, Nat.le_of_ble_eq_true rfl, rfl⟩ ((ev_X8_leafOf _ _).trans (by rw [leafM])) ?_
              refine pR_eq (st' := [.inl (nI (lfA (B.vl (12 * c + A.p) + r (B.rt (12 * c + A.p)))))]) rfl rfl ?_
              refine pr_istore (L' := [(9, .inl (nI (lfA (B.vl (12 * c + A.p) + r (B.rt (12 * c + A.p)))))), (8, .inl (nI 8)), (7, .inl (nI (B.rt (12 * c + A.p)))), (6, .inl (nI (B.lf (12 * c + A.p)))), (5, .inl (nI (12 * c + A.p))), (4, .inl (nI A.p)), (3, .inl (nI 0)), (2, .inl (nI c)), (1, .inl (nI k)), (0, .inr (.inr 0))]) tX8_inOrder_168 (by decide) rfl ?_
              refine pr_iload tX8_inOrder_170 1 rfl ?_
              refine pr_if_ne (pc' := 192) tX8_inOrder_172 rfl (fun hc172 => ?_) (fun hc172 => ?_)
              · skip
                refine pr_iload tX8_inOrder_192 1 rfl ?_
                refine pr_iconst (v := nI 1) tX8_inOrder_194 rfl ?_
                refine pr_ic_ne (pc' := 215) tX8_inOrder_195 rfl (fun hc195 => ?_) (fun hc195 => ?_)
                · skip
                  refine pr_iload tX8_inOrder_215 1 rfl ?_
                  refine pr_iconst (v := nI 2) tX8_inOrder_217 rfl ?_
                  refine pr_ic_ne (pc' := 238) tX8_inOrder_218 rfl (fun hc218 => ?_) (fun hc218 => ?_)
                  · skip
                    refine pr_iload tX8_inOrder_238 1 rfl ?_
                    refine pr_iconst (v := nI 3) tX8_inOrder_240 rfl ?_
                    refine pr_ic_ne (pc' := 264) tX8_inOrder_241 rfl (fun hc241 => ?_) (fun hc241 => ?_)
                    · skip
                      refine pr_iload tX8_inOrder_264 1 rfl ?_
                      refine pr_iconst (v := nI 4) tX8_inOrder_266 rfl ?_
                      refine pr_ic_ne (pc' := 290) tX8_inOrder_267 rfl (fun hc267 => ?_) (fun hc267 => ?_)
                      · skip
                        refine pr_iload tX8_inOrder_290 1 rfl ?_
                        refine pr_iconst (v := nI 5) tX8_inOrder_292 rfl ?_
                        refine pr_ic_ne (pc' := 316) tX8_inOrder_293 rfl (fun hc293 => ?_) (fun hc293 => ?_)
                        · skip
                          refine pr_iload tX8_inOrder_316 1 rfl ?_
                          refine pr_bipush (v := nI 6) tX8_inOrder_318 rfl ?_
                          refine pr_ic_ne (pc' := 357) tX8_inOrder_320 rfl (fun hc320 => ?_) (fun hc320 => ?_)
                          · skip
                            refine pr_iload tX8_inOrder_357 1 rfl ?_
                            refine pr_bipush (v := nI 8) tX8_inOrder_359 rfl ?_
                            refine pr_ic_ne (pc' := 378) tX8_inOrder_361 rfl (fun hc361 => ?_) (fun hc361 => ?_)
                            · skip
                              exact absurd hc361 (by decide)
                            · skip
                              refine pr_aload_n tX8_inOrder_364 9 rfl ?_
                              refine pr_geta (j := 43) tX8_inOrder_365 rfl rfl rfl rfl ?_
                              refine pr_iload tX8_inOrder_368 3 rfl ?_
                              refine pr_lal tX8_inOrder_370 (B.lf (12 * c + A.p)) rfl rfl (k1) (by decide) ?_
                              refine pR_topl (y := r (B.lf (12 * c + A.p))) (pl_r3 (J := σ.2) (f := f) (g := g) (r := r) k1) ?_
                              refine pr_lconst (v := 0) tX8_inOrder_371 rfl ?_
                              refine pr_lcmp tX8_inOrder_372 ?_
                              refine pr_if_ge (pc' := 378) tX8_inOrder_373 rfl (fun hc373 => ?_) (fun hc373 => ?_)
                              · skip
                                skip
                                refine pr_iinc (v := (nI (A.p + 1))) (L' := [(4, .inl (nI (A.p + 1))), (9, .inl (nI (lfA (B.vl (12 * c + A.p) + r (B.rt (12 * c + A.p)))))), (8, .inl (nI 8)), (7, .inl (nI (B.rt (12 * c + A.p)))), (6, .inl (nI (B.lf (12 * c + A.p)))), (5, .inl (nI (12 * c + A.p))), (3, .inl (nI 0)), (2, .inl (nI c)), (1, .inl (nI k)), (0, .inr (.inr 0))]) tX8_inOrder_378 5 rfl (nI_1 _) (by decide) rfl ?_
                                refine pr_goto (pc' := 99) tX8_inOrder_381 rfl ?_
                                refine pR_sub (L' := [(4, .inl (nI (A.p + 1))), (3, .inl (nI 0)), (2, .inl (nI c)), (1, .inl (nI k)), (0, .inr (.inr 0))]) [0, 6, 7, 8, 9] rfl ?_
                                have z := ih (doA B T c A).2 g r u1 hok2 hpm K2
                                rw [u2, u3] at z
                                exact z
                              · skip
                                exact absurd (Int32.not_lt.mp hw) hc373
                          · skip
                            exact absurd (by decide) hc320
                        · skip
                          exact absurd (by decide) hc293
                      · skip
                        exact absurd (by decide) hc267
                    · skip
                      exact absurd (by decide) hc241
                  · skip
                    exact absurd (by decide) hc218
                · skip
                  exact absurd (by decide) hc195
              · skip
                exact absurd (by decide) hc172
