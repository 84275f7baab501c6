/-! ===== the reference's lookStep ===== -/
abbrev AgS (σ τ : pST) : Prop := ∀ x y, ¬ (x = 0 ∧ (y = 27 ∨ y = 28 ∨ y = 29 ∨ y = 30)) → τ.1 x y = σ.1 x y ∧ τ.2 x y = σ.2 x y
theorem AgS.c {σ τ : pST} (h : AgS σ τ) {x : Nat} (hx : x ≠ 0) : τ.1 x = σ.1 x ∧ τ.2 x = σ.2 x := ⟨funext fun y => (h x y fun z => hx z.1).1, funext fun y => (h x y fun z => hx z.1).2⟩
theorem AgS.see {σ τ : pST} (h : AgS σ τ) (k c : Nat) : AgS σ (seeS τ k c) := fun x y hn => ⟨(seeS_f c x y hn).1.trans (h x y hn).1, (seeS_f c x y hn).2.trans (h x y hn).2⟩
theorem see_c {τ : pST} {k c x y : Nat} (hx : x ≠ 0) : (seeS τ k c).1 x y = τ.1 x y := (seeS_f c x y fun z => hx z.1).1
theorem lk_1 {T : TbS} {c i : Nat} {A : AtS} (h : ¬ (cond (isPh T (A.kl i) (wbT T (A.kl i) c)) (1 : Int32) 0) = 0) : chA T c A i := by
  refine .inr (.inl ?_)
  cases hb : isPh T (A.kl i) (wbT T (A.kl i) c) with
  | true => rfl
  | false => rw [hb] at h; exact absurd rfl h
theorem lk_2 {T : TbS} {c i : Nat} {A : AtS} (h : ¬ oI (wbT T (A.kl i) c) = oI (A.kw i)) : chA T c A i := .inl fun z => h (by rw [z])
theorem lk_3 {T : TbS} {c i : Nat} {A : AtS} {x : Int32} (hx : A.kw i ≠ none → x = nI (A.kr i)) (h2 : ¬ oI (wbT T (A.kl i) c) = -1) (h3 : ¬ ruT T (A.kl i) (wbT T (A.kl i) c) = x) : chA T c A i := by
  by_cases e : wbT T (A.kl i) c = A.kw i
  · refine .inr (.inr ⟨fun z => h2 (by rw [z]; rfl), fun z => h3 ?_⟩)
    have hn : A.kw i ≠ none := fun q => h2 (by rw [e, q]; rfl)
    rw [hx hn]
    cases hw : wbT T (A.kl i) c with
    | none => exact absurd (e.symm.trans hw) hn
    | some j =>
      rw [hw] at z
      show nI (T.nm j (A.kl i)) = _
      have z' : T.nm j (A.kl i) = A.kr i := z
      rw [z']
  · exact .inl e
theorem lk_n {T : TbS} {c i : Nat} {A : AtS} {x : Int32} (hc : c ≤ 16) (hw : ∀ j, A.kw i = some j → j < 16) (hn : ∀ j k, T.nm j k ≤ 100) (hr : A.kr i ≤ 100) (hx : A.kw i ≠ none → x = nI (A.kr i)) (h0 : (cond (isPh T (A.kl i) (wbT T (A.kl i) c)) (1 : Int32) 0) = 0) (h1 : oI (wbT T (A.kl i) c) = oI (A.kw i)) (h2 : oI (wbT T (A.kl i) c) = -1 ∨ ruT T (A.kl i) (wbT T (A.kl i) c) = x) : ¬ chA T c A i := by
  have e := oI_inj (wbT_i hc) hw h1
  rintro (z | z | ⟨z1, z2⟩)
  · exact z e
  · rw [z] at h0; exact absurd h0 (by decide)
  · cases hz : wbT T (A.kl i) c with
    | none => exact z1 hz
    | some j =>
      rw [hz] at z2 h2
      rcases h2 with h2 | h2
      · exact oI_m1 (wbT_i hc j hz) h2
      · rw [hx (by rw [← e, hz]; intro q; cases q)] at h2
        have h3 := hn j (A.kl i)
        have h4 : T.nm j (A.kl i) = A.kr i := (nI_eq (by omega) (by omega)).mp h2
        exact z2 h4

set_option maxRecDepth 100000 in
theorem lp_X8_lookStep {σ : pST} {w c : Nat} {A : AtS} {T : TbS} (hc : c < 16) (hA : RMat σ c A) (hk : AtOK c A) (hr : kr100 A) (hT : RMtb σ T 16) (hn : ∀ j k, T.nm j k ≤ 100) (hz : ∀ y, σ.1 22 y = 0 ∨ σ.1 22 y = 1) {post : pRT → Prop} : ∀ (m i : Nat) (τ : pST), i + m = A.kn → AgS σ τ → (∀ τ', AgS σ τ' → fcA T c A m i = none → pR shM tX8_lookStep fX8_lookStep qX8_lookStep lX8_lookStep 5 0 post 152 [(3, .inl (nI 0)), (0, .inr (.inr 0)), (1, .inl (nI w)), (2, .inl (nI c))] [] τ') → (∀ τ' j, AgS σ τ' → fcA T c A m i = some j → τ'.1 0 27 = oI (wbT T (A.kl j) c) → pR shM tX8_lookStep fX8_lookStep qX8_lookStep lX8_lookStep 5 0 post 152 [(3, .inl (nI 1)), (0, .inr (.inr 0)), (1, .inl (nI w)), (2, .inl (nI c))] [] τ') → pR shM tX8_lookStep fX8_lookStep qX8_lookStep lX8_lookStep 5 0 post 55 [(4, .inl (nI i)), (3, .inl (nI 0)), (0, .inr (.inr 0)), (1, .inl (nI w)), (2, .inl (nI c))] [] τ := by
  have hk12 := hk.k12
  intro m
  induction m with
  | zero =>
    intro i τ hi hg K0 K1
    refine pr_iload tX8_lookStep_55 0 rfl ?_
    refine pr_aload_n tX8_lookStep_57 2 rfl ?_
    refine pr_geta (j := 12) tX8_lookStep_58 rfl rfl rfl rfl ?_
    refine pr_iload_n tX8_lookStep_61 4 rfl ?_
    refine pr_ial tX8_lookStep_62 c rfl rfl (by omega) (by decide) ?_
    refine pR_topi (y := (nI A.kn)) (by rw [(hg.c (by decide)).1]; exact hA.kn) ?_
    refine pr_ic_ge (pc' := 152) tX8_lookStep_63 rfl (fun hc63 => ?_) (fun hc63 => ?_)
    · skip
      have hc63 : A.kn ≤ i := (nI_leI (by omega) (by omega)).mp hc63
      refine pR_sub (L' := [(3, .inl (nI 0)), (0, .inr (.inr 0)), (1, .inl (nI w)), (2, .inl (nI c))]) [1, 2, 3, 4] rfl ?_
      exact K0 τ hg rfl
    · skip
      exact absurd ((nI_leI (by omega) (by omega)).mpr (by omega)) hc63
  | succ m ih =>
    intro i τ hi hg K0 K1
    refine pr_iload tX8_lookStep_55 0 rfl ?_
    refine pr_aload_n tX8_lookStep_57 2 rfl ?_
    refine pr_geta (j := 12) tX8_lookStep_58 rfl rfl rfl rfl ?_
    refine pr_iload_n tX8_lookStep_61 4 rfl ?_
    refine pr_ial tX8_lookStep_62 c rfl rfl (by omega) (by decide) ?_
    refine pR_topi (y := (nI A.kn)) (by rw [(hg.c (by decide)).1]; exact hA.kn) ?_
    refine pr_ic_ge (pc' := 152) tX8_lookStep_63 rfl (fun hc63 => ?_) (fun hc63 => ?_)
    · skip
      exact absurd ((nI_leI (by omega) (by omega)).mp hc63) (by omega)
    · skip
      have hc63 : ¬ A.kn ≤ i := fun z9 => hc63 ((nI_leI (by omega) (by omega)).mpr z9)
      refine pr_iload_n tX8_lookStep_66 1 rfl ?_
      refine pr_if_ne (pc' := 152) tX8_lookStep_67 rfl (fun hc67 => ?_) (fun hc67 => ?_)
      · skip
        exact absurd hc67 (by decide)
      · skip
        have hkl := (hk.kl i (by omega)).1
        have hs := rm_see (mtb_c hT (hg.c (by decide)).2 fun x z1 z2 => hg.c (ge_ne z1 (by decide))) hkl c (Nat.le_of_lt hc)
        refine pr_aload_n tX8_lookStep_70 2 rfl ?_
        refine pr_iload_n tX8_lookStep_71 4 rfl ?_
        refine pr_aload_n tX8_lookStep_72 2 rfl ?_
        refine pr_geta (j := 13) tX8_lookStep_73 rfl rfl rfl rfl ?_
        refine pr_bipush (v := nI 32) tX8_lookStep_76 rfl ?_
        refine pr_iload_n tX8_lookStep_78 4 rfl ?_
        refine pr_imul (v := (nI (32 * c))) tX8_lookStep_79 (pk_mul _ _) ?_
        refine pr_iload tX8_lookStep_80 0 rfl ?_
        refine pr_iadd (v := (nI (32 * c + i))) tX8_lookStep_82 (nI_add _ _) ?_
        refine pr_ial tX8_lookStep_83 (32 * c + i) rfl rfl (by omega) (by decide) ?_
        refine pR_topi (y := (nI (A.kl i))) (by rw [(hg.c (by decide)).1]; exact (hA.kl i (by omega)).1) ?_
        refine pr_callV tX8_lookStep_84 rfl ⟨Nat.le_of_ble_eq_true rfl, Nat.le_of_ble_eq_true rfl, rfl⟩ (ev_X8_see τ (Nat.le_of_lt hc) hkl (by rw [(hg.c (by decide)).1]; exact hz)) ?_
        refine pR_eq (st' := []) rfl rfl ?_
        refine pr_aload_n tX8_lookStep_87 2 rfl ?_
        refine pr_get1 tX8_lookStep_88 rfl rfl rfl ?_
        refine pR_topi (y := (cond (isPh T (A.kl i) (wbT T (A.kl i) c)) 1 0)) (hs.2.2.1) ?_
        refine pr_if_ne (pc' := 140) tX8_lookStep_91 rfl (fun hc91 => ?_) (fun hc91 => ?_)
        · skip
          skip
          refine pr_iconst (v := nI 1) tX8_lookStep_140 rfl ?_
          refine pr_goto (pc' := 145) tX8_lookStep_141 rfl ?_
          refine pr_istore_n (L' := [(3, .inl (nI 1)), (4, .inl (nI i)), (0, .inr (.inr 0)), (1, .inl (nI w)), (2, .inl (nI c))]) tX8_lookStep_145 (by decide) rfl ?_
          refine pr_iinc (v := (nI (i + 1))) (L' := [(4, .inl (nI (i + 1))), (3, .inl (nI 1)), (0, .inr (.inr 0)), (1, .inl (nI w)), (2, .inl (nI c))]) tX8_lookStep_146 1 rfl (nI_1 _) (by decide) rfl ?_
          refine pr_goto (pc' := 55) tX8_lookStep_149 rfl ?_
          refine pR_sub (L' := [(4, .inl (nI (i + 1))), (3, .inl (nI 1)), (0, .inr (.inr 0)), (1, .inl (nI w)), (2, .inl (nI c))]) [0, 1, 2, 3, 4] rfl ?_
          have hch : chA T c A i := by first | exact lk_1 hc91 | exact lk_2 hc110 | exact lk_3 (hA.kl i (by omega)).2.2.1 hc118 hc137
          have eF : fcA T c A (m + 1) i = some i := if_pos hch
          have hg2 := hg.see (A.kl i) c
          have z := K1 _ i hg2 eF hs.1
          refine pr_iload tX8_lookStep_55 0 rfl ?_
          refine pr_aload_n tX8_lookStep_57 2 rfl ?_
          refine pr_geta (j := 12) tX8_lookStep_58 rfl rfl rfl rfl ?_
          refine pr_iload_n tX8_lookStep_61 4 rfl ?_
          refine pr_ial tX8_lookStep_62 c rfl rfl (by omega) (by decide) ?_
          refine pR_topi (y := (nI A.kn)) (by rw [(hg2.c (by decide)).1]; exact hA.kn) ?_
          refine pr_ic_ge (pc' := 152) tX8_lookStep_63 rfl (fun hc63 => ?_) (fun hc63 => ?_)
          · skip
            have hc63 : A.kn ≤ (i + 1) := (nI_leI (by omega) (by omega)).mp hc63
            refine pR_sub (L' := [(3, .inl (nI 1)), (0, .inr (.inr 0)), (1, .inl (nI w)), (2, .inl (nI c))]) [1, 2, 3, 4] rfl ?_
            exact z
          · skip
            have hc63 : ¬ A.kn ≤ (i + 1) := fun z9 => hc63 ((nI_leI (by omega) (by omega)).mpr z9)
            refine pr_iload_n tX8_lookStep_66 1 rfl ?_
            refine pr_if_ne (pc' := 152) tX8_lookStep_67 rfl (fun hc67 => ?_) (fun hc67 => ?_)
            · skip
              refine pR_sub (L' := [(3, .inl (nI 1)), (0, .inr (.inr 0)), (1, .inl (nI w)), (2, .inl (nI c))]) [1, 2, 3, 4] rfl ?_
              exact z
            · skip
              exact absurd (by decide) hc67
        · skip
          have hc91 := Decidable.not_not.mp hc91
          refine pr_aload_n tX8_lookStep_94 2 rfl ?_
          refine pr_get0 tX8_lookStep_95 rfl rfl rfl ?_
          refine pR_topi (y := (oI (wbT T (A.kl i) c))) (hs.1) ?_
          refine pr_aload_n tX8_lookStep_98 2 rfl ?_
          refine pr_geta (j := 14) tX8_lookStep_99 rfl rfl rfl rfl ?_
          refine pr_bipush (v := nI 32) tX8_lookStep_102 rfl ?_
          refine pr_iload_n tX8_lookStep_104 4 rfl ?_
          refine pr_imul (v := (nI (32 * c))) tX8_lookStep_105 (pk_mul _ _) ?_
          refine pr_iload tX8_lookStep_106 0 rfl ?_
          refine pr_iadd (v := (nI (32 * c + i))) tX8_lookStep_108 (nI_add _ _) ?_
          refine pr_ial tX8_lookStep_109 (32 * c + i) rfl rfl (by omega) (by decide) ?_
          refine pR_topi (y := (oI (A.kw i))) (by rw [see_c (by decide), (hg.c (by decide)).1]; exact (hA.kl i (by omega)).2.1) ?_
          refine pr_ic_ne (pc' := 140) tX8_lookStep_110 rfl (fun hc110 => ?_) (fun hc110 => ?_)
          · skip
            skip
            refine pr_iconst (v := nI 1) tX8_lookStep_140 rfl ?_
            refine pr_goto (pc' := 145) tX8_lookStep_141 rfl ?_
            refine pr_istore_n (L' := [(3, .inl (nI 1)), (4, .inl (nI i)), (0, .inr (.inr 0)), (1, .inl (nI w)), (2, .inl (nI c))]) tX8_lookStep_145 (by decide) rfl ?_
            refine pr_iinc (v := (nI (i + 1))) (L' := [(4, .inl (nI (i + 1))), (3, .inl (nI 1)), (0, .inr (.inr 0)), (1, .inl (nI w)), (2, .inl (nI c))]) tX8_lookStep_146 1 rfl (nI_1 _) (by decide) rfl ?_
            refine pr_goto (pc' := 55) tX8_lookStep_149 rfl ?_
            refine pR_sub (L' := [(4, .inl (nI (i + 1))), (3, .inl (nI 1)), (0, .inr (.inr 0)), (1, .inl (nI w)), (2, .inl (nI c))]) [0, 1, 2, 3, 4] rfl ?_
            have hch : chA T c A i := by first | exact lk_1 hc91 | exact lk_2 hc110 | exact lk_3 (hA.kl i (by omega)).2.2.1 hc118 hc137
            have eF : fcA T c A (m + 1) i = some i := if_pos hch
            have hg2 := hg.see (A.kl i) c
            have z := K1 _ i hg2 eF hs.1
            refine pr_iload tX8_lookStep_55 0 rfl ?_
            refine pr_aload_n tX8_lookStep_57 2 rfl ?_
            refine pr_geta (j := 12) tX8_lookStep_58 rfl rfl rfl rfl ?_
            refine pr_iload_n tX8_lookStep_61 4 rfl ?_
            refine pr_ial tX8_lookStep_62 c rfl rfl (by omega) (by decide) ?_
            refine pR_topi (y := (nI A.kn)) (by rw [(hg2.c (by decide)).1]; exact hA.kn) ?_
            refine pr_ic_ge (pc' := 152) tX8_lookStep_63 rfl (fun hc63 => ?_) (fun hc63 => ?_)
            · skip
              have hc63 : A.kn ≤ (i + 1) := (nI_leI (by omega) (by omega)).mp hc63
              refine pR_sub (L' := [(3, .inl (nI 1)), (0, .inr (.inr 0)), (1, .inl (nI w)), (2, .inl (nI c))]) [1, 2, 3, 4] rfl ?_
              exact z
            · skip
              have hc63 : ¬ A.kn ≤ (i + 1) := fun z9 => hc63 ((nI_leI (by omega) (by omega)).mpr z9)
              refine pr_iload_n tX8_lookStep_66 1 rfl ?_
              refine pr_if_ne (pc' := 152) tX8_lookStep_67 rfl (fun hc67 => ?_) (fun hc67 => ?_)
              · skip
                refine pR_sub (L' := [(3, .inl (nI 1)), (0, .inr (.inr 0)), (1, .inl (nI w)), (2, .inl (nI c))]) [1, 2, 3, 4] rfl ?_
                exact z
              · skip
                exact absurd (by decide) hc67
          · skip
            have hc110 := Decidable.not_not.mp hc110
            refine pr_aload_n tX8_lookStep_113 2 rfl ?_
            refine pr_get0 tX8_lookStep_114 rfl rfl rfl ?_
            refine pR_topi (y := (oI (wbT T (A.kl i) c))) (hs.1) ?_
            refine pr_iconst (v := -1) tX8_lookStep_117 rfl ?_
            refine pr_ic_eq (pc' := 144) tX8_lookStep_118 rfl (fun hc118 => ?_) (fun hc118 => ?_)
            · skip
              skip
              refine pr_iconst (v := nI 0) tX8_lookStep_144 rfl ?_
              refine pr_istore_n (L' := [(3, .inl (nI 0)), (4, .inl (nI i)), (0, .inr (.inr 0)), (1, .inl (nI w)), (2, .inl (nI c))]) tX8_lookStep_145 (by decide) rfl ?_
              refine pr_iinc (v := (nI (i + 1))) (L' := [(4, .inl (nI (i + 1))), (3, .inl (nI 0)), (0, .inr (.inr 0)), (1, .inl (nI w)), (2, .inl (nI c))]) tX8_lookStep_146 1 rfl (nI_1 _) (by decide) rfl ?_
              refine pr_goto (pc' := 55) tX8_lookStep_149 rfl ?_
              refine pR_sub (L' := [(4, .inl (nI (i + 1))), (3, .inl (nI 0)), (0, .inr (.inr 0)), (1, .inl (nI w)), (2, .inl (nI c))]) [0, 1, 2, 3, 4] rfl ?_
              have hnc : ¬ chA T c A i := lk_n (Nat.le_of_lt hc) (fun j z => Nat.lt_trans ((hk.kl i (by omega)).2 j z) hc) hn (hr i (by omega)) (hA.kl i (by omega)).2.2.1 hc91 hc110 (by first | exact .inl hc118 | exact .inr hc137)
              have eF : fcA T c A (m + 1) i = fcA T c A m (i + 1) := if_neg hnc
              rw [eF] at K0 K1
              exact ih (i + 1) _ (by omega) (hg.see _ _) K0 K1
            · skip
              skip
              refine pr_aload_n tX8_lookStep_121 2 rfl ?_
              refine pr_get0 tX8_lookStep_122 rfl rfl rfl ?_
              refine pR_topi (y := (ruT T (A.kl i) (wbT T (A.kl i) c))) (hs.2.1) ?_
              refine pr_aload_n tX8_lookStep_125 2 rfl ?_
              refine pr_geta (j := 15) tX8_lookStep_126 rfl rfl rfl rfl ?_
              refine pr_bipush (v := nI 32) tX8_lookStep_129 rfl ?_
              refine pr_iload_n tX8_lookStep_131 4 rfl ?_
              refine pr_imul (v := (nI (32 * c))) tX8_lookStep_132 (pk_mul _ _) ?_
              refine pr_iload tX8_lookStep_133 0 rfl ?_
              refine pr_iadd (v := (nI (32 * c + i))) tX8_lookStep_135 (nI_add _ _) ?_
              refine pr_ial tX8_lookStep_136 (32 * c + i) rfl rfl (by omega) (by decide) ?_
              refine pR_topi (y := (σ.1 15 (32 * c + i))) (by rw [see_c (by decide), (hg.c (by decide)).1]) ?_
              refine pr_ic_eq (pc' := 144) tX8_lookStep_137 rfl (fun hc137 => ?_) (fun hc137 => ?_)
              · skip
                skip
                refine pr_iconst (v := nI 0) tX8_lookStep_144 rfl ?_
                refine pr_istore_n (L' := [(3, .inl (nI 0)), (4, .inl (nI i)), (0, .inr (.inr 0)), (1, .inl (nI w)), (2, .inl (nI c))]) tX8_lookStep_145 (by decide) rfl ?_
                refine pr_iinc (v := (nI (i + 1))) (L' := [(4, .inl (nI (i + 1))), (3, .inl (nI 0)), (0, .inr (.inr 0)), (1, .inl (nI w)), (2, .inl (nI c))]) tX8_lookStep_146 1 rfl (nI_1 _) (by decide) rfl ?_
                refine pr_goto (pc' := 55) tX8_lookStep_149 rfl ?_
                refine pR_sub (L' := [(4, .inl (nI (i + 1))), (3, .inl (nI 0)), (0, .inr (.inr 0)), (1, .inl (nI w)), (2, .inl (nI c))]) [0, 1, 2, 3, 4] rfl ?_
                have hnc : ¬ chA T c A i := lk_n (Nat.le_of_lt hc) (fun j z => Nat.lt_trans ((hk.kl i (by omega)).2 j z) hc) hn (hr i (by omega)) (hA.kl i (by omega)).2.2.1 hc91 hc110 (by first | exact .inl hc118 | exact .inr hc137)
                have eF : fcA T c A (m + 1) i = fcA T c A m (i + 1) := if_neg hnc
                rw [eF] at K0 K1
                exact ih (i + 1) _ (by omega) (hg.see _ _) K0 K1
              · skip
                skip
                refine pr_iconst (v := nI 1) tX8_lookStep_140 rfl ?_
                refine pr_goto (pc' := 145) tX8_lookStep_141 rfl ?_
                refine pr_istore_n (L' := [(3, .inl (nI 1)), (4, .inl (nI i)), (0, .inr (.inr 0)), (1, .inl (nI w)), (2, .inl (nI c))]) tX8_lookStep_145 (by decide) rfl ?_
                refine pr_iinc (v := (nI (i + 1))) (L' := [(4, .inl (nI (i + 1))), (3, .inl (nI 1)), (0, .inr (.inr 0)), (1, .inl (nI w)), (2, .inl (nI c))]) tX8_lookStep_146 1 rfl (nI_1 _) (by decide) rfl ?_
                refine pr_goto (pc' := 55) tX8_lookStep_149 rfl ?_
                refine pR_sub (L' := [(4, .inl (nI (i + 1))), (3, .inl (nI 1)), (0, .inr (.inr 0)), (1, .inl (nI w)), (2, .inl (nI c))]) [0, 1, 2, 3, 4] rfl ?_
                have hch : chA T c A i := by first | exact lk_1 hc91 | exact lk_2 hc110 | exact lk_3 (hA.kl i (by omega)).2.2.1 hc118 hc137
                have eF : fcA T c A (m + 1) i = some i := if_pos hch
                have hg2 := hg.see (A.kl i) c
                have z := K1 _ i hg2 eF hs.1
                refine pr_iload tX8_lookStep_55 0 rfl ?_
                refine pr_aload_n tX8_lookStep_57 2 rfl ?_
                refine pr_geta (j := 12) tX8_lookStep_58 rfl rfl rfl rfl ?_
                refine pr_iload_n tX8_lookStep_61 4 rfl ?_
                refine pr_ial tX8_lookStep_62 c rfl rfl (by omega) (by decide) ?_
                refine pR_topi (y := (nI A.kn)) (by rw [(hg2.c (by decide)).1]; exact hA.kn) ?_
                refine pr_ic_ge (pc' := 152) tX8_lookStep_63 rfl (fun hc63 => ?_) (fun hc63 => ?_)
                · skip
                  have hc63 : A.kn ≤ (i + 1) := (nI_leI (by omega) (by omega)).mp hc63
                  refine pR_sub (L' := [(3, .inl (nI 1)), (0, .inr (.inr 0)), (1, .inl (nI w)), (2, .inl (nI c))]) [1, 2, 3, 4] rfl ?_
                  exact z
                · skip
                  have hc63 : ¬ A.kn ≤ (i + 1) := fun z9 => hc63 ((nI_leI (by omega) (by omega)).mpr z9)
                  refine pr_iload_n tX8_lookStep_66 1 rfl ?_
                  refine pr_if_ne (pc' := 152) tX8_lookStep_67 rfl (fun hc67 => ?_) (fun hc67 => ?_)
                  · skip
                    refine pR_sub (L' := [(3, .inl (nI 1)), (0, .inr (.inr 0)), (1, .inl (nI w)), (2, .inl (nI c))]) [1, 2, 3, 4] rfl ?_
                    exact z
                  · skip
                    exact absurd (by decide) hc67

def dbM (I : Nat → Nat → Int32) (c m : Nat) : Nat → Nat → Int32 := fun x y => if x = 22 ∧ 32 * c ≤ y ∧ y < 32 * c + m then I 21 y else I x y
theorem dbM_0 {I : Nat → Nat → Int32} {c : Nat} : dbM I c 0 = I := by
  funext x y
  exact if_neg (by omega)
theorem dbM_o {I : Nat → Nat → Int32} {c m x : Nat} (h : x ≠ 22) : dbM I c m x = I x := by
  funext y
  exact if_neg (fun z => h z.1)
theorem dbM_s {I : Nat → Nat → Int32} {c i : Nat} : pm_ui (dbM I c i) 22 (32 * c + i) (I 21 (32 * c + i)) = dbM I c (i + 1) := by
  funext x y
  rw [pm_ui_a]
  unfold dbM
  by_cases e : x = 22 ∧ y = 32 * c + i
  · rw [if_pos e, if_pos ⟨e.1, by omega, by omega⟩, e.2]
  · rw [if_neg e]
    by_cases q : x = 22 ∧ 32 * c ≤ y ∧ y < 32 * c + i
    · rw [if_pos q, if_pos ⟨q.1, q.2.1, by omega⟩]
    · rw [if_neg q, if_neg (by omega)]

set_option maxRecDepth 100000 in
theorem lb_X8_lookStep {I : Nat → Nat → Int32} {J : Nat → Nat → Int64} {w c : Nat} (hc : c < 16) (h21 : ∀ k, k < 32 → I 21 (32 * c + k) = 0 ∨ I 21 (32 * c + k) = 1) {post : pRT → Prop} (K : pR shM tX8_lookStep fX8_lookStep qX8_lookStep lX8_lookStep 5 0 post 216 [(0, .inr (.inr 0)), (1, .inl (nI w)), (2, .inl (nI c))] [] (dbM I c 32, J)) : ∀ (m i : Nat), i + m = 32 → pR shM tX8_lookStep fX8_lookStep qX8_lookStep lX8_lookStep 5 0 post 179 [(4, .inl (nI i)), (0, .inr (.inr 0)), (1, .inl (nI w)), (2, .inl (nI c))] [] (dbM I c i, J) := by
  intro m
  induction m with
  | zero =>
    intro i hi
    refine pr_iload tX8_lookStep_179 0 rfl ?_
    refine pr_bipush (v := nI 32) tX8_lookStep_181 rfl ?_
    refine pr_ic_ge (pc' := 216) tX8_lookStep_183 rfl (fun hc183 => ?_) (fun hc183 => ?_)
    · skip
      have hc183 : 32 ≤ i := (nI_leI (by omega) (by omega)).mp hc183
      refine pR_sub (L' := [(0, .inr (.inr 0)), (1, .inl (nI w)), (2, .inl (nI c))]) [1, 2, 3] rfl ?_
      rw [show i = 32 by omega]
      exact K
    · skip
      exact absurd ((nI_leI (by omega) (by omega)).mpr (by omega)) hc183
  | succ m ih =>
    intro i hi
    refine pr_iload tX8_lookStep_179 0 rfl ?_
    refine pr_bipush (v := nI 32) tX8_lookStep_181 rfl ?_
    refine pr_ic_ge (pc' := 216) tX8_lookStep_183 rfl (fun hc183 => ?_) (fun hc183 => ?_)
    · skip
      exact absurd ((nI_leI (by omega) (by omega)).mp hc183) (by omega)
    · skip
      have hc183 : ¬ 32 ≤ i := fun z9 => hc183 ((nI_leI (by omega) (by omega)).mpr z9)
      refine pr_aload_n tX8_lookStep_186 1 rfl ?_
      refine pr_geta (j := 22) tX8_lookStep_187 rfl rfl rfl rfl ?_
      refine pr_bipush (v := nI 32) tX8_lookStep_190 rfl ?_
      refine pr_iload_n tX8_lookStep_192 3 rfl ?_
      refine pr_imul (v := (nI (32 * c))) tX8_lookStep_193 (pk_mul _ _) ?_
      refine pr_iload tX8_lookStep_194 0 rfl ?_
      refine pr_iadd (v := (nI (32 * c + i))) tX8_lookStep_196 (nI_add _ _) ?_
      refine pr_aload_n tX8_lookStep_197 1 rfl ?_
      refine pr_geta (j := 21) tX8_lookStep_198 rfl rfl rfl rfl ?_
      refine pr_bipush (v := nI 32) tX8_lookStep_201 rfl ?_
      refine pr_iload_n tX8_lookStep_203 3 rfl ?_
      refine pr_imul (v := (nI (32 * c))) tX8_lookStep_204 (pk_mul _ _) ?_
      refine pr_iload tX8_lookStep_205 0 rfl ?_
      refine pr_iadd (v := (nI (32 * c + i))) tX8_lookStep_207 (nI_add _ _) ?_
      refine pr_zal tX8_lookStep_208 (32 * c + i) rfl rfl (by omega) (by decide) ?_
      refine pR_topi (y := (I 21 (32 * c + i))) (congrFun (dbM_o (I := I) (c := c) (m := i) (x := 21) (by decide)) _) ?_
      refine pr_zas tX8_lookStep_209 (32 * c + i) rfl rfl (by omega) (by decide) (h21 i (by omega)) ?_
      obtain ⟨σ1, eσ1⟩ : ∃ z : pST, z = (pm_ui (dbM I c i, J).1 22 (32 * c + i) (I 21 (32 * c + i)), (dbM I c i, J).2) := ⟨_, rfl⟩
      rw [← eσ1]
      refine pr_iinc (v := (nI (i + 1))) (L' := [(4, .inl (nI (i + 1))), (0, .inr (.inr 0)), (1, .inl (nI w)), (2, .inl (nI c))]) tX8_lookStep_210 0 rfl (nI_1 _) (by decide) rfl ?_
      refine pr_goto (pc' := 179) tX8_lookStep_213 rfl ?_
      refine pR_sub (L' := [(4, .inl (nI (i + 1))), (0, .inr (.inr 0)), (1, .inl (nI w)), (2, .inl (nI c))]) [0, 1, 2, 3] rfl ?_
      have e9 : σ1 = (dbM I c (i + 1), J) := by rw [eσ1]; exact Prod.ext dbM_s rfl
      rw [e9]
      exact ih (i + 1) (by omega)

set_option maxRecDepth 100000 in
theorem lt_X8_lookStep_f {τ ρ : pST} {w c ud nm lr rr bd : Nat} {o : Int32} (hw : w < 4) (hc : c < 16) (ho : τ.1 0 27 = o) (hcf : kX8_conflict0 τ [.inr (.inr 0), .inl (nI c), .inl o] = some (ρ, none)) (hu : ρ.1 0 43 = nI ud) (h21 : ∀ k, k < 32 → ρ.1 21 (32 * c + k) = 0 ∨ ρ.1 21 (32 * c + k) = 1) (hnm : ρ.1 26 c = nI nm) (hn1 : nm ≤ 1000) (hbd : ρ.1 0 2 = nI bd) (hb1 : bd ≤ 100) (hlr : ρ.1 0 38 = nI lr) (hl1 : lr ≤ 16) (hrr : ρ.1 0 37 = nI rr) (hr1 : rr ≤ 16) {post : pRT → Prop} (hge : bd ≤ nm + 1) (P : post ((pm_ui (pm_ui (pm_ui (dbM (pm_ui ρ.1 0 43 (nI (ud + 1))) c 32) 26 c (nI (nm + 1))) 25 c (nI 0)) 0 41 (nI 1), ρ.2), none)) : pR shM tX8_lookStep fX8_lookStep qX8_lookStep lX8_lookStep 5 0 post 152 [(3, .inl (nI 1)), (0, .inr (.inr 0)), (1, .inl (nI w)), (2, .inl (nI c))] [] τ := by
  refine pr_iload_n tX8_lookStep_152 0 rfl ?_
  refine pr_if_ne (pc' := 157) tX8_lookStep_153 rfl (fun hc153 => ?_) (fun hc153 => ?_)
  · skip
    refine pr_aload_n tX8_lookStep_157 1 rfl ?_
    refine pr_iload_n tX8_lookStep_158 3 rfl ?_
    refine pr_aload_n tX8_lookStep_159 1 rfl ?_
    refine pr_get0 tX8_lookStep_160 rfl rfl rfl ?_
    refine pR_topi (y := o) (ho) ?_
    refine pr_callV tX8_lookStep_163 rfl ⟨Nat.le_of_ble_eq_true rfl, Nat.le_of_ble_eq_true rfl, rfl⟩ (hcf) ?_
    refine pR_eq (st' := []) rfl rfl ?_
    refine pr_aload_n tX8_lookStep_166 1 rfl ?_
    refine pr_dup tX8_lookStep_167 rfl ?_
    refine pr_get0 tX8_lookStep_168 rfl rfl rfl ?_
    refine pR_topi (y := (nI ud)) (hu) ?_
    refine pr_iconst (v := nI 1) tX8_lookStep_171 rfl ?_
    refine pr_iadd (v := (nI (ud + 1))) tX8_lookStep_172 (nI_add _ _) ?_
    refine pr_put0 tX8_lookStep_173 rfl rfl rfl ?_
    obtain ⟨σ1, eσ1⟩ : ∃ z : pST, z = (pm_ui ρ.1 0 43 (nI (ud + 1)), ρ.2) := ⟨_, rfl⟩
    rw [← eσ1]
    refine pr_iconst (v := nI 0) tX8_lookStep_176 rfl ?_
    refine pr_istore (L' := [(4, .inl (nI 0)), (3, .inl (nI 1)), (0, .inr (.inr 0)), (1, .inl (nI w)), (2, .inl (nI c))]) tX8_lookStep_177 (by decide) rfl ?_
    refine pR_sub (L' := [(4, .inl (nI 0)), (0, .inr (.inr 0)), (1, .inl (nI w)), (2, .inl (nI c))]) [0, 2, 3, 4] rfl ?_
    rw [eσ1]
    have z := lb_X8_lookStep (I := pm_ui ρ.1 0 43 (nI (ud + 1))) (J := ρ.2) (w := w) hc (fun k hk => by rw [ui_o (by decide)]; exact h21 k hk) (post := post) ?_ 32 0 (by omega)
    · rw [dbM_0] at z
      exact z
    refine pr_aload_n tX8_lookStep_216 0 rfl ?_
    refine pr_geta (j := 26) tX8_lookStep_217 rfl rfl rfl rfl ?_
    refine pr_iload_n tX8_lookStep_220 2 rfl ?_
    refine pr_dup2 tX8_lookStep_221 ⟨rfl, rfl⟩ ?_
    refine pr_ial tX8_lookStep_222 c rfl rfl (by omega) (by decide) ?_
    refine pR_topi (y := (nI nm)) (by simp [pm_ui_a, dbM, hnm]) ?_
    refine pr_iconst (v := nI 1) tX8_lookStep_223 rfl ?_
    refine pr_iadd (v := (nI (nm + 1))) tX8_lookStep_224 (nI_add _ _) ?_
    refine pr_ias tX8_lookStep_225 c rfl rfl (by omega) (by decide) ?_
    obtain ⟨σ1, eσ1⟩ : ∃ z : pST, z = (pm_ui ((dbM (pm_ui ρ.1 0 43 (nI (ud + 1))) c 32), ρ.2).1 26 c (nI (nm + 1)), ((dbM (pm_ui ρ.1 0 43 (nI (ud + 1))) c 32), ρ.2).2) := ⟨_, rfl⟩
    rw [← eσ1]
    refine pr_aload_n tX8_lookStep_226 0 rfl ?_
    refine pr_geta (j := 25) tX8_lookStep_227 rfl rfl rfl rfl ?_
    refine pr_iload_n tX8_lookStep_230 2 rfl ?_
    refine pr_iconst (v := nI 0) tX8_lookStep_231 rfl ?_
    refine pr_ias tX8_lookStep_232 c rfl rfl (by omega) (by decide) ?_
    obtain ⟨σ2, eσ2⟩ : ∃ z : pST, z = (pm_ui σ1.1 25 c (nI 0), σ1.2) := ⟨_, rfl⟩
    rw [← eσ2]
    refine pr_aload_n tX8_lookStep_233 0 rfl ?_
    refine pr_geta (j := 26) tX8_lookStep_234 rfl rfl rfl rfl ?_
    refine pr_iload_n tX8_lookStep_237 2 rfl ?_
    refine pr_ial tX8_lookStep_238 c rfl rfl (by omega) (by decide) ?_
    refine pR_topi (y := (nI (nm + 1))) (by simp [eσ1, eσ2, pm_ui_a, dbM]) ?_
    refine pr_aload_n tX8_lookStep_239 0 rfl ?_
    refine pr_get0 tX8_lookStep_240 rfl rfl rfl ?_
    refine pR_topi (y := (nI bd)) (by simp [eσ1, eσ2, pm_ui_a, dbM, hbd]) ?_
    refine pr_ic_lt (pc' := 252) tX8_lookStep_243 rfl (fun hc243 => ?_) (fun hc243 => ?_)
    · skip
      exact absurd ((nI_ltI (by omega) (by omega)).mp hc243) (by omega)
    · skip
      have hc243 : ¬ (nm + 1) < bd := fun z9 => hc243 ((nI_ltI (by omega) (by omega)).mpr z9)
      refine pr_aload_n tX8_lookStep_246 0 rfl ?_
      refine pr_iconst (v := nI 1) tX8_lookStep_247 rfl ?_
      refine pr_put1 tX8_lookStep_248 rfl rfl rfl (by decide) ?_
      obtain ⟨σ3, eσ3⟩ : ∃ z : pST, z = (pm_ui σ2.1 0 41 (nI 1), σ2.2) := ⟨_, rfl⟩
      rw [← eσ3]
      refine pr_ret tX8_lookStep_251 rfl ?_
      rw [eσ3, eσ2, eσ1]
      exact P
  · skip
    exact absurd (by decide) hc153

set_option maxRecDepth 100000 in
theorem lt_X8_lookStep_u {τ ρ : pST} {w c ud nm lr rr bd : Nat} {o : Int32} (hw : w < 4) (hc : c < 16) (ho : τ.1 0 27 = o) (hcf : kX8_conflict0 τ [.inr (.inr 0), .inl (nI c), .inl o] = some (ρ, none)) (hu : ρ.1 0 43 = nI ud) (h21 : ∀ k, k < 32 → ρ.1 21 (32 * c + k) = 0 ∨ ρ.1 21 (32 * c + k) = 1) (hnm : ρ.1 26 c = nI nm) (hn1 : nm ≤ 1000) (hbd : ρ.1 0 2 = nI bd) (hb1 : bd ≤ 100) (hlr : ρ.1 0 38 = nI lr) (hl1 : lr ≤ 16) (hrr : ρ.1 0 37 = nI rr) (hr1 : rr ≤ 16) {post : pRT → Prop} (hge : ¬ bd ≤ nm + 1) (hlt : rr ≤ c) (P : post (((pm_ui (pm_ui (pm_ui (dbM (pm_ui ρ.1 0 43 (nI (ud + 1))) c 32) 26 c (nI (nm + 1))) 25 c (nI 0)) 0 38 (nI (min lr (c + 1)))), ρ.2), none)) : pR shM tX8_lookStep fX8_lookStep qX8_lookStep lX8_lookStep 5 0 post 152 [(3, .inl (nI 1)), (0, .inr (.inr 0)), (1, .inl (nI w)), (2, .inl (nI c))] [] τ := by
  refine pr_iload_n tX8_lookStep_152 0 rfl ?_
  refine pr_if_ne (pc' := 157) tX8_lookStep_153 rfl (fun hc153 => ?_) (fun hc153 => ?_)
  · skip
    refine pr_aload_n tX8_lookStep_157 1 rfl ?_
    refine pr_iload_n tX8_lookStep_158 3 rfl ?_
    refine pr_aload_n tX8_lookStep_159 1 rfl ?_
    refine pr_get0 tX8_lookStep_160 rfl rfl rfl ?_
    refine pR_topi (y := o) (ho) ?_
    refine pr_callV tX8_lookStep_163 rfl ⟨Nat.le_of_ble_eq_true rfl, Nat.le_of_ble_eq_true rfl, rfl⟩ (hcf) ?_
    refine pR_eq (st' := []) rfl rfl ?_
    refine pr_aload_n tX8_lookStep_166 1 rfl ?_
    refine pr_dup tX8_lookStep_167 rfl ?_
    refine pr_get0 tX8_lookStep_168 rfl rfl rfl ?_
    refine pR_topi (y := (nI ud)) (hu) ?_
    refine pr_iconst (v := nI 1) tX8_lookStep_171 rfl ?_
    refine pr_iadd (v := (nI (ud + 1))) tX8_lookStep_172 (nI_add _ _) ?_
    refine pr_put0 tX8_lookStep_173 rfl rfl rfl ?_
    obtain ⟨σ1, eσ1⟩ : ∃ z : pST, z = (pm_ui ρ.1 0 43 (nI (ud + 1)), ρ.2) := ⟨_, rfl⟩
    rw [← eσ1]
    refine pr_iconst (v := nI 0) tX8_lookStep_176 rfl ?_
    refine pr_istore (L' := [(4, .inl (nI 0)), (3, .inl (nI 1)), (0, .inr (.inr 0)), (1, .inl (nI w)), (2, .inl (nI c))]) tX8_lookStep_177 (by decide) rfl ?_
    refine pR_sub (L' := [(4, .inl (nI 0)), (0, .inr (.inr 0)), (1, .inl (nI w)), (2, .inl (nI c))]) [0, 2, 3, 4] rfl ?_
    rw [eσ1]
    have z := lb_X8_lookStep (I := pm_ui ρ.1 0 43 (nI (ud + 1))) (J := ρ.2) (w := w) hc (fun k hk => by rw [ui_o (by decide)]; exact h21 k hk) (post := post) ?_ 32 0 (by omega)
    · rw [dbM_0] at z
      exact z
    refine pr_aload_n tX8_lookStep_216 0 rfl ?_
    refine pr_geta (j := 26) tX8_lookStep_217 rfl rfl rfl rfl ?_
    refine pr_iload_n tX8_lookStep_220 2 rfl ?_
    refine pr_dup2 tX8_lookStep_221 ⟨rfl, rfl⟩ ?_
    refine pr_ial tX8_lookStep_222 c rfl rfl (by omega) (by decide) ?_
    refine pR_topi (y := (nI nm)) (by simp [pm_ui_a, dbM, hnm]) ?_
    refine pr_iconst (v := nI 1) tX8_lookStep_223 rfl ?_
    refine pr_iadd (v := (nI (nm + 1))) tX8_lookStep_224 (nI_add _ _) ?_
    refine pr_ias tX8_lookStep_225 c rfl rfl (by omega) (by decide) ?_
    obtain ⟨σ1, eσ1⟩ : ∃ z : pST, z = (pm_ui ((dbM (pm_ui ρ.1 0 43 (nI (ud + 1))) c 32), ρ.2).1 26 c (nI (nm + 1)), ((dbM (pm_ui ρ.1 0 43 (nI (ud + 1))) c 32), ρ.2).2) := ⟨_, rfl⟩
    rw [← eσ1]
    refine pr_aload_n tX8_lookStep_226 0 rfl ?_
    refine pr_geta (j := 25) tX8_lookStep_227 rfl rfl rfl rfl ?_
    refine pr_iload_n tX8_lookStep_230 2 rfl ?_
    refine pr_iconst (v := nI 0) tX8_lookStep_231 rfl ?_
    refine pr_ias tX8_lookStep_232 c rfl rfl (by omega) (by decide) ?_
    obtain ⟨σ2, eσ2⟩ : ∃ z : pST, z = (pm_ui σ1.1 25 c (nI 0), σ1.2) := ⟨_, rfl⟩
    rw [← eσ2]
    refine pr_aload_n tX8_lookStep_233 0 rfl ?_
    refine pr_geta (j := 26) tX8_lookStep_234 rfl rfl rfl rfl ?_
    refine pr_iload_n tX8_lookStep_237 2 rfl ?_
    refine pr_ial tX8_lookStep_238 c rfl rfl (by omega) (by decide) ?_
    refine pR_topi (y := (nI (nm + 1))) (by simp [eσ1, eσ2, pm_ui_a, dbM]) ?_
    refine pr_aload_n tX8_lookStep_239 0 rfl ?_
    refine pr_get0 tX8_lookStep_240 rfl rfl rfl ?_
    refine pR_topi (y := (nI bd)) (by simp [eσ1, eσ2, pm_ui_a, dbM, hbd]) ?_
    refine pr_ic_lt (pc' := 252) tX8_lookStep_243 rfl (fun hc243 => ?_) (fun hc243 => ?_)
    · skip
      have hc243 : (nm + 1) < bd := (nI_ltI (by omega) (by omega)).mp hc243
      refine pr_aload_n tX8_lookStep_252 0 rfl ?_
      refine pr_iload_n tX8_lookStep_253 2 rfl ?_
      refine pr_iconst (v := nI 1) tX8_lookStep_254 rfl ?_
      refine pr_iadd (v := (nI (c + 1))) tX8_lookStep_255 (nI_add _ _) ?_
      refine pr_aload_n tX8_lookStep_256 0 rfl ?_
      refine pr_get0 tX8_lookStep_257 rfl rfl rfl ?_
      refine pR_topi (y := (nI lr)) (by simp [eσ1, eσ2, pm_ui_a, dbM, hlr]) ?_
      refine pr_ic_ge (pc' := 269) tX8_lookStep_260 rfl (fun hc260 => ?_) (fun hc260 => ?_)
      · skip
        have hc260 : lr ≤ (c + 1) := (nI_leI (by omega) (by omega)).mp hc260
        refine pr_aload_n tX8_lookStep_269 0 rfl ?_
        refine pr_get0 tX8_lookStep_270 rfl rfl rfl ?_
        refine pR_topi (y := (nI lr)) (by simp [eσ1, eσ2, pm_ui_a, dbM, hlr]) ?_
        refine pr_put0 tX8_lookStep_273 rfl rfl rfl ?_
        obtain ⟨σ3, eσ3⟩ : ∃ z : pST, z = (pm_ui σ2.1 0 38 (nI lr), σ2.2) := ⟨_, rfl⟩
        rw [← eσ3]
        refine pr_aload_n tX8_lookStep_276 0 rfl ?_
        refine pr_get0 tX8_lookStep_277 rfl rfl rfl ?_
        refine pR_topi (y := (nI rr)) (by simp [eσ1, eσ2, eσ3, pm_ui_a, dbM, hrr]) ?_
        refine pr_iload_n tX8_lookStep_280 2 rfl ?_
        refine pr_ic_le (pc' := 290) tX8_lookStep_281 rfl (fun hc281 => ?_) (fun hc281 => ?_)
        · skip
          have hc281 : rr ≤ c := (nI_leI (by omega) (by omega)).mp hc281
          refine pr_ret tX8_lookStep_290 rfl ?_
          have eg : σ3 = ((pm_ui (pm_ui (pm_ui (dbM (pm_ui ρ.1 0 43 (nI (ud + 1))) c 32) 26 c (nI (nm + 1))) 25 c (nI 0)) 0 38 (nI (min lr (c + 1)))), ρ.2) := by
            rw [eσ3, eσ2, eσ1]
            first
              | rw [show min lr (c + 1) = c + 1 by omega]
              | rw [show min lr (c + 1) = lr by omega]
          rw [eg]
          exact P
        · skip
          exact absurd ((nI_leI (by omega) (by omega)).mpr hlt) hc281
      · skip
        have hc260 : ¬ lr ≤ (c + 1) := fun z9 => hc260 ((nI_leI (by omega) (by omega)).mpr z9)
        refine pr_iload_n tX8_lookStep_263 2 rfl ?_
        refine pr_iconst (v := nI 1) tX8_lookStep_264 rfl ?_
        refine pr_iadd (v := (nI (c + 1))) tX8_lookStep_265 (nI_add _ _) ?_
        refine pr_goto (pc' := 273) tX8_lookStep_266 rfl ?_
        refine pr_put0 tX8_lookStep_273 rfl rfl rfl ?_
        obtain ⟨σ4, eσ4⟩ : ∃ z : pST, z = (pm_ui σ2.1 0 38 (nI (c + 1)), σ2.2) := ⟨_, rfl⟩
        rw [← eσ4]
        refine pr_aload_n tX8_lookStep_276 0 rfl ?_
        refine pr_get0 tX8_lookStep_277 rfl rfl rfl ?_
        refine pR_topi (y := (nI rr)) (by simp [eσ1, eσ2, eσ4, pm_ui_a, dbM, hrr]) ?_
        refine pr_iload_n tX8_lookStep_280 2 rfl ?_
        refine pr_ic_le (pc' := 290) tX8_lookStep_281 rfl (fun hc281 => ?_) (fun hc281 => ?_)
        · skip
          have hc281 : rr ≤ c := (nI_leI (by omega) (by omega)).mp hc281
          refine pr_ret tX8_lookStep_290 rfl ?_
          have eg : σ4 = ((pm_ui (pm_ui (pm_ui (dbM (pm_ui ρ.1 0 43 (nI (ud + 1))) c 32) 26 c (nI (nm + 1))) 25 c (nI 0)) 0 38 (nI (min lr (c + 1)))), ρ.2) := by
            rw [eσ4, eσ2, eσ1]
            first
              | rw [show min lr (c + 1) = c + 1 by omega]
              | rw [show min lr (c + 1) = lr by omega]
          rw [eg]
          exact P
        · skip
          exact absurd ((nI_leI (by omega) (by omega)).mpr hlt) hc281
    · skip
      exact absurd ((nI_ltI (by omega) (by omega)).mpr (by omega)) hc243
  · skip
    exact absurd (by decide) hc153

set_option maxRecDepth 100000 in
theorem lt_X8_lookStep_r {τ ρ : pST} {w c ud nm lr rr bd : Nat} {o : Int32} (hw : w < 4) (hc : c < 16) (ho : τ.1 0 27 = o) (hcf : kX8_conflict0 τ [.inr (.inr 0), .inl (nI c), .inl o] = some (ρ, none)) (hu : ρ.1 0 43 = nI ud) (h21 : ∀ k, k < 32 → ρ.1 21 (32 * c + k) = 0 ∨ ρ.1 21 (32 * c + k) = 1) (hnm : ρ.1 26 c = nI nm) (hn1 : nm ≤ 1000) (hbd : ρ.1 0 2 = nI bd) (hb1 : bd ≤ 100) (hlr : ρ.1 0 38 = nI lr) (hl1 : lr ≤ 16) (hrr : ρ.1 0 37 = nI rr) (hr1 : rr ≤ 16) {post : pRT → Prop} {ρ' : pST} (hge : ¬ bd ≤ nm + 1) (hlt : c < rr) (hg : kX8_toRun ((pm_ui (pm_ui (pm_ui (dbM (pm_ui ρ.1 0 43 (nI (ud + 1))) c 32) 26 c (nI (nm + 1))) 25 c (nI 0)) 0 38 (nI (min lr (c + 1)))), ρ.2) [.inr (.inr 0), .inl (nI w), .inl (nI c)] = some (ρ', none)) (P : post (ρ', none)) : pR shM tX8_lookStep fX8_lookStep qX8_lookStep lX8_lookStep 5 0 post 152 [(3, .inl (nI 1)), (0, .inr (.inr 0)), (1, .inl (nI w)), (2, .inl (nI c))] [] τ := by
  refine pr_iload_n tX8_lookStep_152 0 rfl ?_
  refine pr_if_ne (pc' := 157) tX8_lookStep_153 rfl (fun hc153 => ?_) (fun hc153 => ?_)
  · skip
    refine pr_aload_n tX8_lookStep_157 1 rfl ?_
    refine pr_iload_n tX8_lookStep_158 3 rfl ?_
    refine pr_aload_n tX8_lookStep_159 1 rfl ?_
    refine pr_get0 tX8_lookStep_160 rfl rfl rfl ?_
    refine pR_topi (y := o) (ho) ?_
    refine pr_callV tX8_lookStep_163 rfl ⟨Nat.le_of_ble_eq_true rfl, Nat.le_of_ble_eq_true rfl, rfl⟩ (hcf) ?_
    refine pR_eq (st' := []) rfl rfl ?_
    refine pr_aload_n tX8_lookStep_166 1 rfl ?_
    refine pr_dup tX8_lookStep_167 rfl ?_
    refine pr_get0 tX8_lookStep_168 rfl rfl rfl ?_
    refine pR_topi (y := (nI ud)) (hu) ?_
    refine pr_iconst (v := nI 1) tX8_lookStep_171 rfl ?_
    refine pr_iadd (v := (nI (ud + 1))) tX8_lookStep_172 (nI_add _ _) ?_
    refine pr_put0 tX8_lookStep_173 rfl rfl rfl ?_
    obtain ⟨σ1, eσ1⟩ : ∃ z : pST, z = (pm_ui ρ.1 0 43 (nI (ud + 1)), ρ.2) := ⟨_, rfl⟩
    rw [← eσ1]
    refine pr_iconst (v := nI 0) tX8_lookStep_176 rfl ?_
    refine pr_istore (L' := [(4, .inl (nI 0)), (3, .inl (nI 1)), (0, .inr (.inr 0)), (1, .inl (nI w)), (2, .inl (nI c))]) tX8_lookStep_177 (by decide) rfl ?_
    refine pR_sub (L' := [(4, .inl (nI 0)), (0, .inr (.inr 0)), (1, .inl (nI w)), (2, .inl (nI c))]) [0, 2, 3, 4] rfl ?_
    rw [eσ1]
    have z := lb_X8_lookStep (I := pm_ui ρ.1 0 43 (nI (ud + 1))) (J := ρ.2) (w := w) hc (fun k hk => by rw [ui_o (by decide)]; exact h21 k hk) (post := post) ?_ 32 0 (by omega)
    · rw [dbM_0] at z
      exact z
    refine pr_aload_n tX8_lookStep_216 0 rfl ?_
    refine pr_geta (j := 26) tX8_lookStep_217 rfl rfl rfl rfl ?_
    refine pr_iload_n tX8_lookStep_220 2 rfl ?_
    refine pr_dup2 tX8_lookStep_221 ⟨rfl, rfl⟩ ?_
    refine pr_ial tX8_lookStep_222 c rfl rfl (by omega) (by decide) ?_
    refine pR_topi (y := (nI nm)) (by simp [pm_ui_a, dbM, hnm]) ?_
    refine pr_iconst (v := nI 1) tX8_lookStep_223 rfl ?_
    refine pr_iadd (v := (nI (nm + 1))) tX8_lookStep_224 (nI_add _ _) ?_
    refine pr_ias tX8_lookStep_225 c rfl rfl (by omega) (by decide) ?_
    obtain ⟨σ1, eσ1⟩ : ∃ z : pST, z = (pm_ui ((dbM (pm_ui ρ.1 0 43 (nI (ud + 1))) c 32), ρ.2).1 26 c (nI (nm + 1)), ((dbM (pm_ui ρ.1 0 43 (nI (ud + 1))) c 32), ρ.2).2) := ⟨_, rfl⟩
    rw [← eσ1]
    refine pr_aload_n tX8_lookStep_226 0 rfl ?_
    refine pr_geta (j := 25) tX8_lookStep_227 rfl rfl rfl rfl ?_
    refine pr_iload_n tX8_lookStep_230 2 rfl ?_
    refine pr_iconst (v := nI 0) tX8_lookStep_231 rfl ?_
    refine pr_ias tX8_lookStep_232 c rfl rfl (by omega) (by decide) ?_
    obtain ⟨σ2, eσ2⟩ : ∃ z : pST, z = (pm_ui σ1.1 25 c (nI 0), σ1.2) := ⟨_, rfl⟩
    rw [← eσ2]
    refine pr_aload_n tX8_lookStep_233 0 rfl ?_
    refine pr_geta (j := 26) tX8_lookStep_234 rfl rfl rfl rfl ?_
    refine pr_iload_n tX8_lookStep_237 2 rfl ?_
    refine pr_ial tX8_lookStep_238 c rfl rfl (by omega) (by decide) ?_
    refine pR_topi (y := (nI (nm + 1))) (by simp [eσ1, eσ2, pm_ui_a, dbM]) ?_
    refine pr_aload_n tX8_lookStep_239 0 rfl ?_
    refine pr_get0 tX8_lookStep_240 rfl rfl rfl ?_
    refine pR_topi (y := (nI bd)) (by simp [eσ1, eσ2, pm_ui_a, dbM, hbd]) ?_
    refine pr_ic_lt (pc' := 252) tX8_lookStep_243 rfl (fun hc243 => ?_) (fun hc243 => ?_)
    · skip
      have hc243 : (nm + 1) < bd := (nI_ltI (by omega) (by omega)).mp hc243
      refine pr_aload_n tX8_lookStep_252 0 rfl ?_
      refine pr_iload_n tX8_lookStep_253 2 rfl ?_
      refine pr_iconst (v := nI 1) tX8_lookStep_254 rfl ?_
      refine pr_iadd (v := (nI (c + 1))) tX8_lookStep_255 (nI_add _ _) ?_
      refine pr_aload_n tX8_lookStep_256 0 rfl ?_
      refine pr_get0 tX8_lookStep_257 rfl rfl rfl ?_
      refine pR_topi (y := (nI lr)) (by simp [eσ1, eσ2, pm_ui_a, dbM, hlr]) ?_
      refine pr_ic_ge (pc' := 269) tX8_lookStep_260 rfl (fun hc260 => ?_) (fun hc260 => ?_)
      · skip
        have hc260 : lr ≤ (c + 1) := (nI_leI (by omega) (by omega)).mp hc260
        refine pr_aload_n tX8_lookStep_269 0 rfl ?_
        refine pr_get0 tX8_lookStep_270 rfl rfl rfl ?_
        refine pR_topi (y := (nI lr)) (by simp [eσ1, eσ2, pm_ui_a, dbM, hlr]) ?_
        refine pr_put0 tX8_lookStep_273 rfl rfl rfl ?_
        obtain ⟨σ3, eσ3⟩ : ∃ z : pST, z = (pm_ui σ2.1 0 38 (nI lr), σ2.2) := ⟨_, rfl⟩
        rw [← eσ3]
        refine pr_aload_n tX8_lookStep_276 0 rfl ?_
        refine pr_get0 tX8_lookStep_277 rfl rfl rfl ?_
        refine pR_topi (y := (nI rr)) (by simp [eσ1, eσ2, eσ3, pm_ui_a, dbM, hrr]) ?_
        refine pr_iload_n tX8_lookStep_280 2 rfl ?_
        refine pr_ic_le (pc' := 290) tX8_lookStep_281 rfl (fun hc281 => ?_) (fun hc281 => ?_)
        · skip
          exact absurd ((nI_leI (by omega) (by omega)).mp hc281) (by omega)
        · skip
          have hc281 : ¬ rr ≤ c := fun z9 => hc281 ((nI_leI (by omega) (by omega)).mpr z9)
          refine pr_aload_n tX8_lookStep_284 0 rfl ?_
          refine pr_iload_n tX8_lookStep_285 1 rfl ?_
          refine pr_iload_n tX8_lookStep_286 2 rfl ?_
          have eg : σ3 = ((pm_ui (pm_ui (pm_ui (dbM (pm_ui ρ.1 0 43 (nI (ud + 1))) c 32) 26 c (nI (nm + 1))) 25 c (nI 0)) 0 38 (nI (min lr (c + 1)))), ρ.2) := by
            rw [eσ3, eσ2, eσ1]
            have e : min lr (c + 1) = c + 1 ∨ min lr (c + 1) = lr := by omega
            first
              | rw [show min lr (c + 1) = c + 1 by omega]
              | rw [show min lr (c + 1) = lr by omega]
          refine pr_callV tX8_lookStep_287 rfl ⟨Nat.le_of_ble_eq_true rfl, Nat.le_of_ble_eq_true rfl, rfl⟩ (by rw [eg]; exact hg) ?_
          refine pR_eq (st' := []) rfl rfl ?_
          refine pr_ret tX8_lookStep_290 rfl ?_
          exact P
      · skip
        have hc260 : ¬ lr ≤ (c + 1) := fun z9 => hc260 ((nI_leI (by omega) (by omega)).mpr z9)
        refine pr_iload_n tX8_lookStep_263 2 rfl ?_
        refine pr_iconst (v := nI 1) tX8_lookStep_264 rfl ?_
        refine pr_iadd (v := (nI (c + 1))) tX8_lookStep_265 (nI_add _ _) ?_
        refine pr_goto (pc' := 273) tX8_lookStep_266 rfl ?_
        refine pr_put0 tX8_lookStep_273 rfl rfl rfl ?_
        obtain ⟨σ4, eσ4⟩ : ∃ z : pST, z = (pm_ui σ2.1 0 38 (nI (c + 1)), σ2.2) := ⟨_, rfl⟩
        rw [← eσ4]
        refine pr_aload_n tX8_lookStep_276 0 rfl ?_
        refine pr_get0 tX8_lookStep_277 rfl rfl rfl ?_
        refine pR_topi (y := (nI rr)) (by simp [eσ1, eσ2, eσ4, pm_ui_a, dbM, hrr]) ?_
        refine pr_iload_n tX8_lookStep_280 2 rfl ?_
        refine pr_ic_le (pc' := 290) tX8_lookStep_281 rfl (fun hc281 => ?_) (fun hc281 => ?_)
        · skip
          exact absurd ((nI_leI (by omega) (by omega)).mp hc281) (by omega)
        · skip
          have hc281 : ¬ rr ≤ c := fun z9 => hc281 ((nI_leI (by omega) (by omega)).mpr z9)
          refine pr_aload_n tX8_lookStep_284 0 rfl ?_
          refine pr_iload_n tX8_lookStep_285 1 rfl ?_
          refine pr_iload_n tX8_lookStep_286 2 rfl ?_
          have eg : σ4 = ((pm_ui (pm_ui (pm_ui (dbM (pm_ui ρ.1 0 43 (nI (ud + 1))) c 32) 26 c (nI (nm + 1))) 25 c (nI 0)) 0 38 (nI (min lr (c + 1)))), ρ.2) := by
            rw [eσ4, eσ2, eσ1]
            have e : min lr (c + 1) = c + 1 ∨ min lr (c + 1) = lr := by omega
            first
              | rw [show min lr (c + 1) = c + 1 by omega]
              | rw [show min lr (c + 1) = lr by omega]
          refine pr_callV tX8_lookStep_287 rfl ⟨Nat.le_of_ble_eq_true rfl, Nat.le_of_ble_eq_true rfl, rfl⟩ (by rw [eg]; exact hg) ?_
          refine pR_eq (st' := []) rfl rfl ?_
          refine pr_ret tX8_lookStep_290 rfl ?_
          exact P
    · skip
      exact absurd ((nI_ltI (by omega) (by omega)).mpr (by omega)) hc243
  · skip
    exact absurd (by decide) hc153

set_option maxRecDepth 100000 in
theorem lt_X8_lookStep_n {τ : pST} {w c : Nat} {post : pRT → Prop} (P : post (τ, none)) : pR shM tX8_lookStep fX8_lookStep qX8_lookStep lX8_lookStep 5 0 post 152 [(3, .inl (nI 0)), (0, .inr (.inr 0)), (1, .inl (nI w)), (2, .inl (nI c))] [] τ := by
  refine pr_iload_n tX8_lookStep_152 0 rfl ?_
  refine pr_if_ne (pc' := 157) tX8_lookStep_153 rfl (fun hc153 => ?_) (fun hc153 => ?_)
  · skip
    exact absurd hc153 (by decide)
  · skip
    refine pr_ret tX8_lookStep_156 rfl ?_
    exact P

set_option maxRecDepth 100000 in
theorem ev_X8_look_n (σ : pST) {w c lk hw nm tn : Nat} (h4 : w < 4) (hc : c < 16) (h1 : σ.1 29 w = nI c) (hk : σ.1 0 42 = nI lk) (h2 : σ.1 25 c = nI hw) (h21 : hw ≤ 3) (h3 : σ.1 26 c = nI nm) (h31 : nm ≤ 1000) (h5 : σ.1 30 w = nI tn) (h51 : tn ≤ 1000) (hq : ¬ (hw = 2 ∧ nm = tn)) : kX8_lookStep σ [.inr (.inr 0), .inl (nI w)] = some (((pm_ui (pm_ui (σ.1) 28 w (nI 0)) 0 42 (nI (lk + 1)), σ.2), none)) := by
  have key : ∃ x, kX8_lookStep σ [.inr (.inr 0), .inl (nI w)] = some x ∧ x = ((pm_ui (pm_ui (σ.1) 28 w (nI 0)) 0 42 (nI (lk + 1)), σ.2), none) := by
    refine pR_met (post := fun x => x = ((pm_ui (pm_ui (σ.1) 28 w (nI 0)) 0 42 (nI (lk + 1)), σ.2), none)) rfl (Nat.le_of_ble_eq_true rfl) ?_
    show pR _ _ _ _ _ _ _ _ 0 [(0, .inr (.inr 0)), (1, .inl (nI w))] [] σ
    refine pr_aload_n tX8_lookStep_0 0 rfl ?_
    refine pr_geta (j := 29) tX8_lookStep_1 rfl rfl rfl rfl ?_
    refine pr_iload_n tX8_lookStep_4 1 rfl ?_
    refine pr_ial tX8_lookStep_5 w rfl rfl (by omega) (by decide) ?_
    refine pR_topi (y := (nI c)) (by simp [pm_ui, pm_uj, upd, vp_updL, h1]) ?_
    refine pr_istore_n (L' := [(2, .inl (nI c)), (0, .inr (.inr 0)), (1, .inl (nI w))]) tX8_lookStep_6 (by decide) rfl ?_
    refine pr_aload_n tX8_lookStep_7 1 rfl ?_
    refine pr_geta (j := 28) tX8_lookStep_8 rfl rfl rfl rfl ?_
    refine pr_iload_n tX8_lookStep_11 2 rfl ?_
    refine pr_iconst (v := nI 0) tX8_lookStep_12 rfl ?_
    refine pr_ias tX8_lookStep_13 w rfl rfl (by omega) (by decide) ?_
    obtain ⟨σ1, eσ1⟩ : ∃ z : pST, z = (pm_ui σ.1 28 w (nI 0), σ.2) := ⟨_, rfl⟩
    rw [← eσ1]
    refine pr_aload_n tX8_lookStep_14 1 rfl ?_
    refine pr_dup tX8_lookStep_15 rfl ?_
    refine pr_get0 tX8_lookStep_16 rfl rfl rfl ?_
    refine pR_topi (y := (nI lk)) (by simp [eσ1, pm_ui, pm_uj, upd, vp_updL, hk]) ?_
    refine pr_iconst (v := nI 1) tX8_lookStep_19 rfl ?_
    refine pr_iadd (v := (nI (lk + 1))) tX8_lookStep_20 (nI_add _ _) ?_
    refine pr_put0 tX8_lookStep_21 rfl rfl rfl ?_
    obtain ⟨σ2, eσ2⟩ : ∃ z : pST, z = (pm_ui σ1.1 0 42 (nI (lk + 1)), σ1.2) := ⟨_, rfl⟩
    rw [← eσ2]
    refine pr_aload_n tX8_lookStep_24 1 rfl ?_
    refine pr_geta (j := 25) tX8_lookStep_25 rfl rfl rfl rfl ?_
    refine pr_iload_n tX8_lookStep_28 0 rfl ?_
    refine pr_ial tX8_lookStep_29 c rfl rfl (by omega) (by decide) ?_
    refine pR_topi (y := (nI hw)) (by simp [eσ1, eσ2, pm_ui, pm_uj, upd, vp_updL, h2]) ?_
    refine pr_iconst (v := nI 2) tX8_lookStep_30 rfl ?_
    refine pr_ic_ne (pc' := 49) tX8_lookStep_31 rfl (fun hc31 => ?_) (fun hc31 => ?_)
    · skip
      have hc31 : ¬ hw = 2 := fun z9 => hc31 ((nI_eq (by omega) (by omega)).mpr z9)
      refine pr_ret tX8_lookStep_49 rfl ?_
      rw [eσ2, eσ1]
      try rfl
    · skip
      have hc31 : hw = 2 := (nI_eq (by omega) (by omega)).mp (Decidable.not_not.mp hc31)
      refine pr_aload_n tX8_lookStep_34 1 rfl ?_
      refine pr_geta (j := 26) tX8_lookStep_35 rfl rfl rfl rfl ?_
      refine pr_iload_n tX8_lookStep_38 0 rfl ?_
      refine pr_ial tX8_lookStep_39 c rfl rfl (by omega) (by decide) ?_
      refine pR_topi (y := (nI nm)) (by simp [eσ1, eσ2, pm_ui, pm_uj, upd, vp_updL, h3]) ?_
      refine pr_aload_n tX8_lookStep_40 1 rfl ?_
      refine pr_geta (j := 30) tX8_lookStep_41 rfl rfl rfl rfl ?_
      refine pr_iload_n tX8_lookStep_44 2 rfl ?_
      refine pr_ial tX8_lookStep_45 w rfl rfl (by omega) (by decide) ?_
      refine pR_topi (y := (nI tn)) (by simp [eσ1, eσ2, pm_ui, pm_uj, upd, vp_updL, h5]) ?_
      refine pr_ic_eq (pc' := 50) tX8_lookStep_46 rfl (fun hc46 => ?_) (fun hc46 => ?_)
      · skip
        exact absurd ((nI_eq (by omega) (by omega)).mp hc46) (by omega)
      · skip
        have hc46 : ¬ nm = tn := fun z9 => hc46 ((nI_eq (by omega) (by omega)).mpr z9)
        refine pr_ret tX8_lookStep_49 rfl ?_
        rw [eσ2, eσ1]
        try rfl
  obtain ⟨x, h1, h2⟩ := key
  rw [h1, h2]

set_option maxRecDepth 100000 in
theorem le_X8_lookStep (σ : pST) {w c lk hw nm tn : Nat} (h4 : w < 4) (hc : c < 16) (h1 : σ.1 29 w = nI c) (hk : σ.1 0 42 = nI lk) (h2 : σ.1 25 c = nI hw) (h21 : hw ≤ 3) (h3 : σ.1 26 c = nI nm) (h31 : nm ≤ 1000) (h5 : σ.1 30 w = nI tn) (h51 : tn ≤ 1000) (hq : hw = 2 ∧ nm = tn) {post : pRT → Prop} (K : pR shM tX8_lookStep fX8_lookStep qX8_lookStep lX8_lookStep 5 0 post 55 [(4, .inl (nI 0)), (3, .inl (nI 0)), (0, .inr (.inr 0)), (1, .inl (nI w)), (2, .inl (nI c))] [] (pm_ui (pm_ui (σ.1) 28 w (nI 0)) 0 42 (nI (lk + 1)), σ.2)) : ∃ x, kX8_lookStep σ [.inr (.inr 0), .inl (nI w)] = some x ∧ post x := by
  refine pR_met (post := post) rfl (Nat.le_of_ble_eq_true rfl) ?_
  show pR _ _ _ _ _ _ _ _ 0 [(0, .inr (.inr 0)), (1, .inl (nI w))] [] σ
  refine pr_aload_n tX8_lookStep_0 0 rfl ?_
  refine pr_geta (j := 29) tX8_lookStep_1 rfl rfl rfl rfl ?_
  refine pr_iload_n tX8_lookStep_4 1 rfl ?_
  refine pr_ial tX8_lookStep_5 w rfl rfl (by omega) (by decide) ?_
  refine pR_topi (y := (nI c)) (by simp [pm_ui, pm_uj, upd, vp_updL, h1]) ?_
  refine pr_istore_n (L' := [(2, .inl (nI c)), (0, .inr (.inr 0)), (1, .inl (nI w))]) tX8_lookStep_6 (by decide) rfl ?_
  refine pr_aload_n tX8_lookStep_7 1 rfl ?_
  refine pr_geta (j := 28) tX8_lookStep_8 rfl rfl rfl rfl ?_
  refine pr_iload_n tX8_lookStep_11 2 rfl ?_
  refine pr_iconst (v := nI 0) tX8_lookStep_12 rfl ?_
  refine pr_ias tX8_lookStep_13 w rfl rfl (by omega) (by decide) ?_
  obtain ⟨σ1, eσ1⟩ : ∃ z : pST, z = (pm_ui σ.1 28 w (nI 0), σ.2) := ⟨_, rfl⟩
  rw [← eσ1]
  refine pr_aload_n tX8_lookStep_14 1 rfl ?_
  refine pr_dup tX8_lookStep_15 rfl ?_
  refine pr_get0 tX8_lookStep_16 rfl rfl rfl ?_
  refine pR_topi (y := (nI lk)) (by simp [eσ1, pm_ui, pm_uj, upd, vp_updL, hk]) ?_
  refine pr_iconst (v := nI 1) tX8_lookStep_19 rfl ?_
  refine pr_iadd (v := (nI (lk + 1))) tX8_lookStep_20 (nI_add _ _) ?_
  refine pr_put0 tX8_lookStep_21 rfl rfl rfl ?_
  obtain ⟨σ2, eσ2⟩ : ∃ z : pST, z = (pm_ui σ1.1 0 42 (nI (lk + 1)), σ1.2) := ⟨_, rfl⟩
  rw [← eσ2]
  refine pr_aload_n tX8_lookStep_24 1 rfl ?_
  refine pr_geta (j := 25) tX8_lookStep_25 rfl rfl rfl rfl ?_
  refine pr_iload_n tX8_lookStep_28 0 rfl ?_
  refine pr_ial tX8_lookStep_29 c rfl rfl (by omega) (by decide) ?_
  refine pR_topi (y := (nI hw)) (by simp [eσ1, eσ2, pm_ui, pm_uj, upd, vp_updL, h2]) ?_
  refine pr_iconst (v := nI 2) tX8_lookStep_30 rfl ?_
  refine pr_ic_ne (pc' := 49) tX8_lookStep_31 rfl (fun hc31 => ?_) (fun hc31 => ?_)
  · skip
    exact absurd ((nI_eq (by omega) (by omega)).mpr hq.1) hc31
  · skip
    skip
    refine pr_aload_n tX8_lookStep_34 1 rfl ?_
    refine pr_geta (j := 26) tX8_lookStep_35 rfl rfl rfl rfl ?_
    refine pr_iload_n tX8_lookStep_38 0 rfl ?_
    refine pr_ial tX8_lookStep_39 c rfl rfl (by omega) (by decide) ?_
    refine pR_topi (y := (nI nm)) (by simp [eσ1, eσ2, pm_ui, pm_uj, upd, vp_updL, h3]) ?_
    refine pr_aload_n tX8_lookStep_40 1 rfl ?_
    refine pr_geta (j := 30) tX8_lookStep_41 rfl rfl rfl rfl ?_
    refine pr_iload_n tX8_lookStep_44 2 rfl ?_
    refine pr_ial tX8_lookStep_45 w rfl rfl (by omega) (by decide) ?_
    refine pR_topi (y := (nI tn)) (by simp [eσ1, eσ2, pm_ui, pm_uj, upd, vp_updL, h5]) ?_
    refine pr_ic_eq (pc' := 50) tX8_lookStep_46 rfl (fun hc46 => ?_) (fun hc46 => ?_)
    · skip
      skip
      refine pr_iconst (v := nI 0) tX8_lookStep_50 rfl ?_
      refine pr_istore_n (L' := [(3, .inl (nI 0)), (2, .inl (nI c)), (0, .inr (.inr 0)), (1, .inl (nI w))]) tX8_lookStep_51 (by decide) rfl ?_
      refine pr_iconst (v := nI 0) tX8_lookStep_52 rfl ?_
      refine pr_istore (L' := [(4, .inl (nI 0)), (3, .inl (nI 0)), (2, .inl (nI c)), (0, .inr (.inr 0)), (1, .inl (nI w))]) tX8_lookStep_53 (by decide) rfl ?_
      refine pR_sub (L' := [(4, .inl (nI 0)), (3, .inl (nI 0)), (0, .inr (.inr 0)), (1, .inl (nI w)), (2, .inl (nI c))]) [0, 1, 3, 4, 2] rfl ?_
      rw [eσ2, eσ1]
      exact K
    · skip
      exact absurd ((nI_eq (by omega) (by omega)).mpr hq.2) hc46
