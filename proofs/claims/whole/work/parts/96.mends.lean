/-! ===== the reference's ends ===== -/
def wkD (S : RnS) (c r : Nat) : Nat → Nat → Nat
  | 0, _ => r
  | m + 1, j => if wokeS S c j then min j (wkD S c r m (j + 1)) else wkD S c r m (j + 1)
theorem frM_s {σ : pST} {c m : Nat} : frM σ c (m + 1) = if frM σ c m = 0 ∧ wrM σ c m ∧ σ.1 21 (32 * c + m) = 0 then 1 else frM σ c m := rfl
theorem wkD_s {S : RnS} {c r m j : Nat} : wkD S c r (m + 1) j = if wokeS S c j then min j (wkD S c r m (j + 1)) else wkD S c r m (j + 1) := rfl
theorem wkD_le {S : RnS} {c r : Nat} : ∀ m j, wkD S c r m j ≤ r
  | 0, _ => Nat.le_refl _
  | m + 1, j => by
    have := wkD_le (S := S) (c := c) (r := r) m (j + 1)
    unfold wkD
    split <;> omega
theorem wkD_R {S : RnS} {c r : Nat} : ∀ m j, min (wakeR S c j r) (wkD S c r m j) = wakeR S c (j + m) r
  | 0, j => by
    have := wakeR_le (S := S) (c := c) j r
    show min _ r = _
    rw [Nat.add_zero]
    omega
  | m + 1, j => by
    have ih := wkD_R (S := S) (c := c) (r := r) m (j + 1)
    have e : j + (m + 1) = j + 1 + m := by omega
    rw [e, ← ih, wkD_s, show wakeR S c (j + 1) r = if wokeS S c j then min (wakeR S c j r) j else wakeR S c j r from rfl]
    split
    · omega
    · rfl
theorem wkD_all {S : RnS} {c r n : Nat} : wkD S c r n 0 = wakeR S c n r := by
  have h := wkD_R (S := S) (c := c) (r := r) n 0
  have h1 := wkD_le (S := S) (c := c) (r := r) n 0
  rw [Nat.zero_add] at h
  rw [← h]
  show _ = min r _
  omega
def wmI (I : Nat → Nat → Int32) (S : RnS) (c n j : Nat) : Nat → Nat → Int32 := fun x y => if x = 25 ∧ j ≤ y ∧ y < n ∧ wokeS S c y then nI 0 else if x = 0 ∧ y = 37 then nI (wkD S c S.rr (n - j) j) else I x y
theorem wm_n {I : Nat → Nat → Int32} {S : RnS} {c n : Nat} (h : I 0 37 = nI S.rr) : wmI I S c n n = I := by
  funext x y
  unfold wmI
  rw [if_neg (by omega)]
  by_cases e : x = 0 ∧ y = 37
  · rw [if_pos e, Nat.sub_self, e.1, e.2, h]
    rfl
  · rw [if_neg e]
theorem wm_t {I : Nat → Nat → Int32} {S : RnS} {c n d v : Nat} (hd : d < n) (h : wokeS S c d) (hv : v = min d (wkD S c S.rr (n - (d + 1)) (d + 1))) : pm_ui (pm_ui (wmI I S c n (d + 1)) 25 d (nI 0)) 0 37 (nI v) = wmI I S c n d := by
  funext x y
  simp only [pm_ui_a, wmI]
  by_cases e : x = 0 ∧ y = 37
  · rw [if_pos e, if_neg (by omega), if_pos e, show n - d = n - (d + 1) + 1 by omega, hv, wkD_s, if_pos h]
  · rw [if_neg e]
    by_cases e2 : x = 25 ∧ y = d
    · rw [if_pos e2, if_pos ⟨e2.1, by omega, by omega, by rw [e2.2]; exact h⟩]
    · rw [if_neg e2]
      by_cases q : x = 25 ∧ d + 1 ≤ y ∧ y < n ∧ wokeS S c y
      · rw [if_pos q, if_pos ⟨q.1, by omega, q.2.2⟩]
      · rw [if_neg q, if_neg e, if_neg (fun z => q ⟨z.1, by have := z.2.1; have : y ≠ d := fun w => e2 ⟨z.1, w⟩; omega, z.2.2⟩), if_neg e]
theorem wm_f {I : Nat → Nat → Int32} {S : RnS} {c n d : Nat} (hd : d < n) (h : ¬ wokeS S c d) : wmI I S c n (d + 1) = wmI I S c n d := by
  funext x y
  unfold wmI
  by_cases q : x = 25 ∧ d + 1 ≤ y ∧ y < n ∧ wokeS S c y
  · rw [if_pos q, if_pos ⟨q.1, by omega, q.2.2⟩]
  · have q2 : ¬ (x = 25 ∧ d ≤ y ∧ y < n ∧ wokeS S c y) := fun z => q ⟨z.1, by have := z.2.1; have : y ≠ d := fun w => h (w ▸ z.2.2.2); omega, z.2.2⟩
    rw [if_neg q, if_neg q2]
    by_cases e : x = 0 ∧ y = 37
    · rw [if_pos e, if_pos e, show n - d = n - (d + 1) + 1 by omega]
      show _ = nI (if wokeS S c d then _ else _)
      rw [if_neg h]
    · rw [if_neg e, if_neg e]

set_option maxRecDepth 100000 in
theorem lp_X8_ends (σ : pST) {w c nm : Nat} (hc : c < 16) (hnm : σ.1 26 c = nI nm) {post : pRT → Prop} (K : pR shM tX8_ends fX8_ends qX8_ends lX8_ends 6 0 post 128 [(3, .inl (nI (frM σ c 32))), (0, .inr (.inr 0)), (1, .inl (nI w)), (2, .inl (nI c))] [] (epI σ c (nI nm) 32, epJ σ c 32)) : ∀ (m i : Nat), i + m = 32 → pR shM tX8_ends fX8_ends qX8_ends lX8_ends 6 0 post 5 [(4, .inl (nI i)), (3, .inl (nI (frM σ c i))), (0, .inr (.inr 0)), (1, .inl (nI w)), (2, .inl (nI c))] [] (epI σ c (nI nm) i, epJ σ c i) := by
  intro m
  induction m with
  | zero =>
    intro i hi
    refine pr_iload tX8_ends_5 0 rfl ?_
    refine pr_bipush (v := nI 32) tX8_ends_7 rfl ?_
    refine pr_ic_ge (pc' := 128) tX8_ends_9 rfl (fun hc9 => ?_) (fun hc9 => ?_)
    · skip
      have hc9 : 32 ≤ i := (nI_leI (by omega) (by omega)).mp hc9
      refine pR_sub (L' := [(3, .inl (nI (frM σ c i))), (0, .inr (.inr 0)), (1, .inl (nI w)), (2, .inl (nI c))]) [1, 2, 3, 4] rfl ?_
      rw [show i = 32 by omega]
      exact K
    · skip
      exact absurd ((nI_leI (by omega) (by omega)).mpr (by omega)) hc9
  | succ m ih =>
    intro i hi
    refine pr_iload tX8_ends_5 0 rfl ?_
    refine pr_bipush (v := nI 32) tX8_ends_7 rfl ?_
    refine pr_ic_ge (pc' := 128) tX8_ends_9 rfl (fun hc9 => ?_) (fun hc9 => ?_)
    · skip
      exact absurd ((nI_leI (by omega) (by omega)).mp hc9) (by omega)
    · skip
      have hc9 : ¬ 32 ≤ i := fun z9 => hc9 ((nI_leI (by omega) (by omega)).mpr z9)
      refine pr_bipush (v := nI 32) tX8_ends_12 rfl ?_
      refine pr_iload_n tX8_ends_14 4 rfl ?_
      refine pr_imul (v := (nI (32 * c))) tX8_ends_15 (pk_mul _ _) ?_
      refine pr_iload tX8_ends_16 0 rfl ?_
      refine pr_iadd (v := (nI (32 * c + i))) tX8_ends_18 (nI_add _ _) ?_
      refine pr_istore (L' := [(5, .inl (nI (32 * c + i))), (4, .inl (nI i)), (3, .inl (nI (frM σ c i))), (0, .inr (.inr 0)), (1, .inl (nI w)), (2, .inl (nI c))]) tX8_ends_19 (by decide) rfl ?_
      refine pr_aload_n tX8_ends_21 3 rfl ?_
      refine pr_geta (j := 10) tX8_ends_22 rfl rfl rfl rfl ?_
      refine pr_iload tX8_ends_25 0 rfl ?_
      refine pr_zal tX8_ends_27 (32 * c + i) rfl rfl (by omega) (by decide) ?_
      refine pR_topi (y := (σ.1 10 (32 * c + i))) (ep_o (σ := σ) (c := c) (m := i) (num := nI nm) (x := 10) (by decide) (by decide) (by decide)) ?_
      refine pr_if_eq (pc' := 106) tX8_ends_28 rfl (fun hc28 => ?_) (fun hc28 => ?_)
      · skip
        skip
        refine pr_aload_n tX8_ends_106 3 rfl ?_
        refine pr_geta (j := 21) tX8_ends_107 rfl rfl rfl rfl ?_
        refine pr_iload tX8_ends_110 0 rfl ?_
        refine pr_iconst (v := nI 0) tX8_ends_112 rfl ?_
        refine pr_zas tX8_ends_113 (32 * c + i) rfl rfl (by omega) (by decide) (by decide) ?_
        obtain ⟨σ1, eσ1⟩ : ∃ z : pST, z = (pm_ui (epI σ c (nI nm) i, epJ σ c i).1 21 (32 * c + i) (nI 0), (epI σ c (nI nm) i, epJ σ c i).2) := ⟨_, rfl⟩
        rw [← eσ1]
        refine pr_aload_n tX8_ends_114 3 rfl ?_
        refine pr_geta (j := 22) tX8_ends_115 rfl rfl rfl rfl ?_
        refine pr_iload tX8_ends_118 0 rfl ?_
        refine pr_iconst (v := nI 0) tX8_ends_120 rfl ?_
        refine pr_zas tX8_ends_121 (32 * c + i) rfl rfl (by omega) (by decide) (by decide) ?_
        obtain ⟨σ2, eσ2⟩ : ∃ z : pST, z = (pm_ui σ1.1 22 (32 * c + i) (nI 0), σ1.2) := ⟨_, rfl⟩
        rw [← eσ2]
        refine pr_iinc (v := (nI (i + 1))) (L' := [(4, .inl (nI (i + 1))), (5, .inl (nI (32 * c + i))), (3, .inl (nI (frM σ c i))), (0, .inr (.inr 0)), (1, .inl (nI w)), (2, .inl (nI c))]) tX8_ends_122 1 rfl (nI_1 _) (by decide) rfl ?_
        refine pr_goto (pc' := 5) tX8_ends_125 rfl ?_
        refine pR_sub (L' := [(4, .inl (nI (i + 1))), (3, .inl (nI (frM σ c i))), (0, .inr (.inr 0)), (1, .inl (nI w)), (2, .inl (nI c))]) [0, 2, 3, 4, 5] rfl ?_
        have e9 : σ2 = (epI σ c (nI nm) (i + 1), epJ σ c (i + 1)) := by rw [eσ2, eσ1]; exact ep_f (show ¬ wrM σ c i from fun z => by first | exact z.1 hc28 | exact hc37 z.2)
        have e8 : frM σ c (i + 1) = frM σ c i := by
          rw [frM_s, if_neg (fun z => (show ¬ wrM σ c i from fun z => by first | exact z.1 hc28 | exact hc37 z.2) z.2.1)]
        have z := ih (i + 1) (by omega)
        rw [e8] at z
        rw [e9]
        exact z
      · skip
        skip
        refine pr_aload_n tX8_ends_31 3 rfl ?_
        refine pr_geta (j := 9) tX8_ends_32 rfl rfl rfl rfl ?_
        refine pr_iload_n tX8_ends_35 5 rfl ?_
        refine pr_zal tX8_ends_36 c rfl rfl (by omega) (by decide) ?_
        refine pR_topi (y := (σ.1 9 c)) (ep_o (σ := σ) (c := c) (m := i) (num := nI nm) (x := 9) (by decide) (by decide) (by decide)) ?_
        refine pr_if_ne (pc' := 106) tX8_ends_37 rfl (fun hc37 => ?_) (fun hc37 => ?_)
        · skip
          skip
          refine pr_aload_n tX8_ends_106 3 rfl ?_
          refine pr_geta (j := 21) tX8_ends_107 rfl rfl rfl rfl ?_
          refine pr_iload tX8_ends_110 0 rfl ?_
          refine pr_iconst (v := nI 0) tX8_ends_112 rfl ?_
          refine pr_zas tX8_ends_113 (32 * c + i) rfl rfl (by omega) (by decide) (by decide) ?_
          obtain ⟨σ3, eσ3⟩ : ∃ z : pST, z = (pm_ui (epI σ c (nI nm) i, epJ σ c i).1 21 (32 * c + i) (nI 0), (epI σ c (nI nm) i, epJ σ c i).2) := ⟨_, rfl⟩
          rw [← eσ3]
          refine pr_aload_n tX8_ends_114 3 rfl ?_
          refine pr_geta (j := 22) tX8_ends_115 rfl rfl rfl rfl ?_
          refine pr_iload tX8_ends_118 0 rfl ?_
          refine pr_iconst (v := nI 0) tX8_ends_120 rfl ?_
          refine pr_zas tX8_ends_121 (32 * c + i) rfl rfl (by omega) (by decide) (by decide) ?_
          obtain ⟨σ4, eσ4⟩ : ∃ z : pST, z = (pm_ui σ3.1 22 (32 * c + i) (nI 0), σ3.2) := ⟨_, rfl⟩
          rw [← eσ4]
          refine pr_iinc (v := (nI (i + 1))) (L' := [(4, .inl (nI (i + 1))), (5, .inl (nI (32 * c + i))), (3, .inl (nI (frM σ c i))), (0, .inr (.inr 0)), (1, .inl (nI w)), (2, .inl (nI c))]) tX8_ends_122 1 rfl (nI_1 _) (by decide) rfl ?_
          refine pr_goto (pc' := 5) tX8_ends_125 rfl ?_
          refine pR_sub (L' := [(4, .inl (nI (i + 1))), (3, .inl (nI (frM σ c i))), (0, .inr (.inr 0)), (1, .inl (nI w)), (2, .inl (nI c))]) [0, 2, 3, 4, 5] rfl ?_
          have e9 : σ4 = (epI σ c (nI nm) (i + 1), epJ σ c (i + 1)) := by rw [eσ4, eσ3]; exact ep_f (show ¬ wrM σ c i from fun z => by first | exact z.1 hc28 | exact hc37 z.2)
          have e8 : frM σ c (i + 1) = frM σ c i := by
            rw [frM_s, if_neg (fun z => (show ¬ wrM σ c i from fun z => by first | exact z.1 hc28 | exact hc37 z.2) z.2.1)]
          have z := ih (i + 1) (by omega)
          rw [e8] at z
          rw [e9]
          exact z
        · skip
          have hc37 := Decidable.not_not.mp hc37
          have hf1 := frM_le (σ := σ) (c := c) i
          refine pr_iload_n tX8_ends_40 2 rfl ?_
          refine pr_if_ne (pc' := 54) tX8_ends_41 rfl (fun hc41 => ?_) (fun hc41 => ?_)
          · skip
            have hc41 : ¬ (frM σ c i) = 0 := fun z9 => hc41 (by have z8 := (nI_eq (by omega) (by omega)).mpr z9; rw [nI_0] at z8; exact z8)
            refine pr_iconst (v := nI 1) tX8_ends_54 rfl ?_
            refine pr_goto (pc' := 59) tX8_ends_55 rfl ?_
            refine pr_istore_n (L' := [(3, .inl (nI 1)), (5, .inl (nI (32 * c + i))), (4, .inl (nI i)), (0, .inr (.inr 0)), (1, .inl (nI w)), (2, .inl (nI c))]) tX8_ends_59 (by decide) rfl ?_
            refine pr_aload_n tX8_ends_60 3 rfl ?_
            refine pr_geta (j := 21) tX8_ends_61 rfl rfl rfl rfl ?_
            refine pr_iload tX8_ends_64 1 rfl ?_
            refine pr_iconst (v := nI 1) tX8_ends_66 rfl ?_
            refine pr_zas tX8_ends_67 (32 * c + i) rfl rfl (by omega) (by decide) (by decide) ?_
            obtain ⟨σ5, eσ5⟩ : ∃ z : pST, z = (pm_ui (epI σ c (nI nm) i, epJ σ c i).1 21 (32 * c + i) (nI 1), (epI σ c (nI nm) i, epJ σ c i).2) := ⟨_, rfl⟩
            rw [← eσ5]
            refine pr_aload_n tX8_ends_68 3 rfl ?_
            refine pr_geta (j := 22) tX8_ends_69 rfl rfl rfl rfl ?_
            refine pr_iload tX8_ends_72 1 rfl ?_
            refine pr_iconst (v := nI 0) tX8_ends_74 rfl ?_
            refine pr_zas tX8_ends_75 (32 * c + i) rfl rfl (by omega) (by decide) (by decide) ?_
            obtain ⟨σ6, eσ6⟩ : ∃ z : pST, z = (pm_ui σ5.1 22 (32 * c + i) (nI 0), σ5.2) := ⟨_, rfl⟩
            rw [← eσ6]
            refine pr_aload_n tX8_ends_76 3 rfl ?_
            refine pr_geta (j := 23) tX8_ends_77 rfl rfl rfl rfl ?_
            refine pr_iload tX8_ends_80 1 rfl ?_
            refine pr_aload_n tX8_ends_82 3 rfl ?_
            refine pr_geta (j := 11) tX8_ends_83 rfl rfl rfl rfl ?_
            refine pr_iload tX8_ends_86 1 rfl ?_
            refine pr_lal tX8_ends_88 (32 * c + i) rfl rfl (by omega) (by decide) ?_
            refine pR_topl (y := σ.2 11 (32 * c + i)) (by rw [eσ6, eσ5]; exact epJ_o (σ := σ) (c := c) (m := i) (x := 11) (by decide)) ?_
            refine pr_las tX8_ends_89 (32 * c + i) rfl rfl (by omega) (by decide) ?_
            obtain ⟨σ7, eσ7⟩ : ∃ z : pST, z = (σ6.1, pm_uj σ6.2 23 (32 * c + i) (σ.2 11 (32 * c + i))) := ⟨_, rfl⟩
            rw [← eσ7]
            refine pr_aload_n tX8_ends_90 3 rfl ?_
            refine pr_geta (j := 24) tX8_ends_91 rfl rfl rfl rfl ?_
            refine pr_iload tX8_ends_94 1 rfl ?_
            refine pr_aload_n tX8_ends_96 3 rfl ?_
            refine pr_geta (j := 26) tX8_ends_97 rfl rfl rfl rfl ?_
            refine pr_iload_n tX8_ends_100 5 rfl ?_
            refine pr_ial tX8_ends_101 c rfl rfl (by omega) (by decide) ?_
            refine pR_topi (y := (nI nm)) (by simp [eσ5, eσ6, eσ7, pm_ui_a, ep_o, hnm]) ?_
            refine pr_ias tX8_ends_102 (32 * c + i) rfl rfl (by omega) (by decide) ?_
            obtain ⟨σ8, eσ8⟩ : ∃ z : pST, z = (pm_ui σ7.1 24 (32 * c + i) (nI nm), σ7.2) := ⟨_, rfl⟩
            rw [← eσ8]
            refine pr_goto (pc' := 122) tX8_ends_103 rfl ?_
            refine pr_iinc (v := (nI (i + 1))) (L' := [(4, .inl (nI (i + 1))), (3, .inl (nI 1)), (5, .inl (nI (32 * c + i))), (0, .inr (.inr 0)), (1, .inl (nI w)), (2, .inl (nI c))]) tX8_ends_122 2 rfl (nI_1 _) (by decide) rfl ?_
            refine pr_goto (pc' := 5) tX8_ends_125 rfl ?_
            refine pR_sub (L' := [(4, .inl (nI (i + 1))), (3, .inl (nI 1)), (0, .inr (.inr 0)), (1, .inl (nI w)), (2, .inl (nI c))]) [0, 1, 3, 4, 5] rfl ?_
            have e9 : σ8 = (epI σ c (nI nm) (i + 1), epJ σ c (i + 1)) := by rw [eσ8, eσ7, eσ6, eσ5]; exact ep_t (show wrM σ c i from ⟨hc28, hc37⟩)
            have e8 : frM σ c (i + 1) = 1 := by
              rw [frM_s]
              split
              · rfl
              · rename_i q
                apply Classical.byContradiction
                intro u
                exact q ⟨by omega, ⟨hc28, hc37⟩, by first | assumption | omega⟩
            have z := ih (i + 1) (by omega)
            rw [e8] at z
            rw [e9]
            exact z
          · skip
            have hc41 : (frM σ c i) = 0 := (nI_eq (by omega) (by omega)).mp (by rw [nI_0]; exact Decidable.not_not.mp hc41)
            refine pr_aload_n tX8_ends_44 3 rfl ?_
            refine pr_geta (j := 21) tX8_ends_45 rfl rfl rfl rfl ?_
            refine pr_iload tX8_ends_48 0 rfl ?_
            refine pr_zal tX8_ends_50 (32 * c + i) rfl rfl (by omega) (by decide) ?_
            refine pR_topi (y := (σ.1 21 (32 * c + i))) (ep_21 (σ := σ) (num := nI nm)) ?_
            refine pr_if_ne (pc' := 58) tX8_ends_51 rfl (fun hc51 => ?_) (fun hc51 => ?_)
            · skip
              skip
              refine pr_iconst (v := nI 0) tX8_ends_58 rfl ?_
              refine pr_istore_n (L' := [(3, .inl (nI 0)), (5, .inl (nI (32 * c + i))), (4, .inl (nI i)), (0, .inr (.inr 0)), (1, .inl (nI w)), (2, .inl (nI c))]) tX8_ends_59 (by decide) rfl ?_
              refine pr_aload_n tX8_ends_60 3 rfl ?_
              refine pr_geta (j := 21) tX8_ends_61 rfl rfl rfl rfl ?_
              refine pr_iload tX8_ends_64 1 rfl ?_
              refine pr_iconst (v := nI 1) tX8_ends_66 rfl ?_
              refine pr_zas tX8_ends_67 (32 * c + i) rfl rfl (by omega) (by decide) (by decide) ?_
              obtain ⟨σ9, eσ9⟩ : ∃ z : pST, z = (pm_ui (epI σ c (nI nm) i, epJ σ c i).1 21 (32 * c + i) (nI 1), (epI σ c (nI nm) i, epJ σ c i).2) := ⟨_, rfl⟩
              rw [← eσ9]
              refine pr_aload_n tX8_ends_68 3 rfl ?_
              refine pr_geta (j := 22) tX8_ends_69 rfl rfl rfl rfl ?_
              refine pr_iload tX8_ends_72 1 rfl ?_
              refine pr_iconst (v := nI 0) tX8_ends_74 rfl ?_
              refine pr_zas tX8_ends_75 (32 * c + i) rfl rfl (by omega) (by decide) (by decide) ?_
              obtain ⟨σ10, eσ10⟩ : ∃ z : pST, z = (pm_ui σ9.1 22 (32 * c + i) (nI 0), σ9.2) := ⟨_, rfl⟩
              rw [← eσ10]
              refine pr_aload_n tX8_ends_76 3 rfl ?_
              refine pr_geta (j := 23) tX8_ends_77 rfl rfl rfl rfl ?_
              refine pr_iload tX8_ends_80 1 rfl ?_
              refine pr_aload_n tX8_ends_82 3 rfl ?_
              refine pr_geta (j := 11) tX8_ends_83 rfl rfl rfl rfl ?_
              refine pr_iload tX8_ends_86 1 rfl ?_
              refine pr_lal tX8_ends_88 (32 * c + i) rfl rfl (by omega) (by decide) ?_
              refine pR_topl (y := σ.2 11 (32 * c + i)) (by rw [eσ10, eσ9]; exact epJ_o (σ := σ) (c := c) (m := i) (x := 11) (by decide)) ?_
              refine pr_las tX8_ends_89 (32 * c + i) rfl rfl (by omega) (by decide) ?_
              obtain ⟨σ11, eσ11⟩ : ∃ z : pST, z = (σ10.1, pm_uj σ10.2 23 (32 * c + i) (σ.2 11 (32 * c + i))) := ⟨_, rfl⟩
              rw [← eσ11]
              refine pr_aload_n tX8_ends_90 3 rfl ?_
              refine pr_geta (j := 24) tX8_ends_91 rfl rfl rfl rfl ?_
              refine pr_iload tX8_ends_94 1 rfl ?_
              refine pr_aload_n tX8_ends_96 3 rfl ?_
              refine pr_geta (j := 26) tX8_ends_97 rfl rfl rfl rfl ?_
              refine pr_iload_n tX8_ends_100 5 rfl ?_
              refine pr_ial tX8_ends_101 c rfl rfl (by omega) (by decide) ?_
              refine pR_topi (y := (nI nm)) (by simp [eσ9, eσ10, eσ11, pm_ui_a, ep_o, hnm]) ?_
              refine pr_ias tX8_ends_102 (32 * c + i) rfl rfl (by omega) (by decide) ?_
              obtain ⟨σ12, eσ12⟩ : ∃ z : pST, z = (pm_ui σ11.1 24 (32 * c + i) (nI nm), σ11.2) := ⟨_, rfl⟩
              rw [← eσ12]
              refine pr_goto (pc' := 122) tX8_ends_103 rfl ?_
              refine pr_iinc (v := (nI (i + 1))) (L' := [(4, .inl (nI (i + 1))), (3, .inl (nI 0)), (5, .inl (nI (32 * c + i))), (0, .inr (.inr 0)), (1, .inl (nI w)), (2, .inl (nI c))]) tX8_ends_122 2 rfl (nI_1 _) (by decide) rfl ?_
              refine pr_goto (pc' := 5) tX8_ends_125 rfl ?_
              refine pR_sub (L' := [(4, .inl (nI (i + 1))), (3, .inl (nI 0)), (0, .inr (.inr 0)), (1, .inl (nI w)), (2, .inl (nI c))]) [0, 1, 3, 4, 5] rfl ?_
              have e9 : σ12 = (epI σ c (nI nm) (i + 1), epJ σ c (i + 1)) := by rw [eσ12, eσ11, eσ10, eσ9]; exact ep_t (show wrM σ c i from ⟨hc28, hc37⟩)
              have e8 : frM σ c (i + 1) = 0 := by
                rw [frM_s, if_neg (fun z => hc51 z.2.2)]
                exact hc41
              have z := ih (i + 1) (by omega)
              rw [e8] at z
              rw [e9]
              exact z
            · skip
              have hc51 := Decidable.not_not.mp hc51
              refine pr_iconst (v := nI 1) tX8_ends_54 rfl ?_
              refine pr_goto (pc' := 59) tX8_ends_55 rfl ?_
              refine pr_istore_n (L' := [(3, .inl (nI 1)), (5, .inl (nI (32 * c + i))), (4, .inl (nI i)), (0, .inr (.inr 0)), (1, .inl (nI w)), (2, .inl (nI c))]) tX8_ends_59 (by decide) rfl ?_
              refine pr_aload_n tX8_ends_60 3 rfl ?_
              refine pr_geta (j := 21) tX8_ends_61 rfl rfl rfl rfl ?_
              refine pr_iload tX8_ends_64 1 rfl ?_
              refine pr_iconst (v := nI 1) tX8_ends_66 rfl ?_
              refine pr_zas tX8_ends_67 (32 * c + i) rfl rfl (by omega) (by decide) (by decide) ?_
              obtain ⟨σ13, eσ13⟩ : ∃ z : pST, z = (pm_ui (epI σ c (nI nm) i, epJ σ c i).1 21 (32 * c + i) (nI 1), (epI σ c (nI nm) i, epJ σ c i).2) := ⟨_, rfl⟩
              rw [← eσ13]
              refine pr_aload_n tX8_ends_68 3 rfl ?_
              refine pr_geta (j := 22) tX8_ends_69 rfl rfl rfl rfl ?_
              refine pr_iload tX8_ends_72 1 rfl ?_
              refine pr_iconst (v := nI 0) tX8_ends_74 rfl ?_
              refine pr_zas tX8_ends_75 (32 * c + i) rfl rfl (by omega) (by decide) (by decide) ?_
              obtain ⟨σ14, eσ14⟩ : ∃ z : pST, z = (pm_ui σ13.1 22 (32 * c + i) (nI 0), σ13.2) := ⟨_, rfl⟩
              rw [← eσ14]
              refine pr_aload_n tX8_ends_76 3 rfl ?_
              refine pr_geta (j := 23) tX8_ends_77 rfl rfl rfl rfl ?_
              refine pr_iload tX8_ends_80 1 rfl ?_
              refine pr_aload_n tX8_ends_82 3 rfl ?_
              refine pr_geta (j := 11) tX8_ends_83 rfl rfl rfl rfl ?_
              refine pr_iload tX8_ends_86 1 rfl ?_
              refine pr_lal tX8_ends_88 (32 * c + i) rfl rfl (by omega) (by decide) ?_
              refine pR_topl (y := σ.2 11 (32 * c + i)) (by rw [eσ14, eσ13]; exact epJ_o (σ := σ) (c := c) (m := i) (x := 11) (by decide)) ?_
              refine pr_las tX8_ends_89 (32 * c + i) rfl rfl (by omega) (by decide) ?_
              obtain ⟨σ15, eσ15⟩ : ∃ z : pST, z = (σ14.1, pm_uj σ14.2 23 (32 * c + i) (σ.2 11 (32 * c + i))) := ⟨_, rfl⟩
              rw [← eσ15]
              refine pr_aload_n tX8_ends_90 3 rfl ?_
              refine pr_geta (j := 24) tX8_ends_91 rfl rfl rfl rfl ?_
              refine pr_iload tX8_ends_94 1 rfl ?_
              refine pr_aload_n tX8_ends_96 3 rfl ?_
              refine pr_geta (j := 26) tX8_ends_97 rfl rfl rfl rfl ?_
              refine pr_iload_n tX8_ends_100 5 rfl ?_
              refine pr_ial tX8_ends_101 c rfl rfl (by omega) (by decide) ?_
              refine pR_topi (y := (nI nm)) (by simp [eσ13, eσ14, eσ15, pm_ui_a, ep_o, hnm]) ?_
              refine pr_ias tX8_ends_102 (32 * c + i) rfl rfl (by omega) (by decide) ?_
              obtain ⟨σ16, eσ16⟩ : ∃ z : pST, z = (pm_ui σ15.1 24 (32 * c + i) (nI nm), σ15.2) := ⟨_, rfl⟩
              rw [← eσ16]
              refine pr_goto (pc' := 122) tX8_ends_103 rfl ?_
              refine pr_iinc (v := (nI (i + 1))) (L' := [(4, .inl (nI (i + 1))), (3, .inl (nI 1)), (5, .inl (nI (32 * c + i))), (0, .inr (.inr 0)), (1, .inl (nI w)), (2, .inl (nI c))]) tX8_ends_122 2 rfl (nI_1 _) (by decide) rfl ?_
              refine pr_goto (pc' := 5) tX8_ends_125 rfl ?_
              refine pR_sub (L' := [(4, .inl (nI (i + 1))), (3, .inl (nI 1)), (0, .inr (.inr 0)), (1, .inl (nI w)), (2, .inl (nI c))]) [0, 1, 3, 4, 5] rfl ?_
              have e9 : σ16 = (epI σ c (nI nm) (i + 1), epJ σ c (i + 1)) := by rw [eσ16, eσ15, eσ14, eσ13]; exact ep_t (show wrM σ c i from ⟨hc28, hc37⟩)
              have e8 : frM σ c (i + 1) = 1 := by
                rw [frM_s]
                split
                · rfl
                · rename_i q
                  apply Classical.byContradiction
                  intro u
                  exact q ⟨by omega, ⟨hc28, hc37⟩, by first | assumption | omega⟩
              have z := ih (i + 1) (by omega)
              rw [e8] at z
              rw [e9]
              exact z

set_option maxRecDepth 100000 in
theorem lw_X8_ends {I : Nat → Nat → Int32} {J : Nat → Nat → Int64} {S : RnS} {w c n f : Nat} (hc : c < 16) (hn1 : n ≤ 16) (hr1 : S.rr ≤ 16) (hH : ∀ i, i < n → I 25 i = nI (S.hw i) ∧ S.hw i ≤ 3 ∧ (S.hw i = 3 → I 27 i = nI (S.aw i) ∧ S.aw i < 16)) {post : pRT → Prop} (K : pR shM tX8_ends fX8_ends qX8_ends lX8_ends 6 0 post 206 [(3, .inl (nI f)), (0, .inr (.inr 0)), (1, .inl (nI w)), (2, .inl (nI c))] [] (wmI I S c n 0, J)) : ∀ (j : Nat), j ≤ n → pR shM tX8_ends fX8_ends qX8_ends lX8_ends 6 0 post 143 [(4, .inl (dnI j)), (3, .inl (nI f)), (0, .inr (.inr 0)), (1, .inl (nI w)), (2, .inl (nI c))] [] (wmI I S c n j, J) := by
  intro j
  induction j with
  | zero =>
    intro hj
    refine pr_iload tX8_ends_143 0 rfl ?_
    refine pr_if_lt (pc' := 206) tX8_ends_145 rfl (fun hc145 => ?_) (fun hc145 => ?_)
    · skip
      skip
      refine pR_sub (L' := [(3, .inl (nI f)), (0, .inr (.inr 0)), (1, .inl (nI w)), (2, .inl (nI c))]) [1, 2, 3, 4] rfl ?_
      exact K
    · skip
      exact absurd (show dnI 0 < 0 by decide) hc145
  | succ d ih =>
    intro hj
    show pR shM tX8_ends fX8_ends qX8_ends lX8_ends 6 0 post 143 [(4, .inl (nI d)), (3, .inl (nI f)), (0, .inr (.inr 0)), (1, .inl (nI w)), (2, .inl (nI c))] [] (wmI I S c n (d + 1), J)
    refine pr_iload tX8_ends_143 0 rfl ?_
    refine pr_if_lt (pc' := 206) tX8_ends_145 rfl (fun hc145 => ?_) (fun hc145 => ?_)
    · skip
      exact absurd hc145 (nI_pos (by omega))
    · skip
      skip
      obtain ⟨hh1, hh2, hh3⟩ := hH d (by omega)
      refine pr_aload_n tX8_ends_148 2 rfl ?_
      refine pr_geta (j := 25) tX8_ends_149 rfl rfl rfl rfl ?_
      refine pr_iload tX8_ends_152 0 rfl ?_
      refine pr_ial tX8_ends_154 d rfl rfl (by omega) (by decide) ?_
      refine pR_topi (y := (nI (S.hw d))) (by have z := hh1; simpa [wmI, show ¬ (d + 1 ≤ d) by omega] using z) ?_
      refine pr_iconst (v := nI 3) tX8_ends_155 rfl ?_
      refine pr_ic_ne (pc' := 200) tX8_ends_156 rfl (fun hc156 => ?_) (fun hc156 => ?_)
      · skip
        have hc156 : ¬ (S.hw d) = 3 := fun z9 => hc156 ((nI_eq (by omega) (by omega)).mpr z9)
        refine pr_iinc (v := (dnI d)) (L' := [(4, .inl (dnI d)), (3, .inl (nI f)), (0, .inr (.inr 0)), (1, .inl (nI w)), (2, .inl (nI c))]) tX8_ends_200 0 rfl (dnI_p d) (by decide) rfl ?_
        refine pr_goto (pc' := 143) tX8_ends_203 rfl ?_
        refine pR_sub (L' := [(4, .inl (dnI d)), (3, .inl (nI f)), (0, .inr (.inr 0)), (1, .inl (nI w)), (2, .inl (nI c))]) [0, 1, 2, 3, 4] rfl ?_
        have e9 : ((wmI I S c n (d + 1), J) : pST) = (wmI I S c n d, J) := by rw [wm_f (by omega) (fun z => by first | exact hc156 z.1 | exact hc167 z.2)]
        rw [e9]
        exact ih (by omega)
      · skip
        have hc156 : (S.hw d) = 3 := (nI_eq (by omega) (by omega)).mp (Decidable.not_not.mp hc156)
        obtain ⟨hh4, hh5⟩ := hh3 hc156
        refine pr_aload_n tX8_ends_159 2 rfl ?_
        refine pr_geta (j := 27) tX8_ends_160 rfl rfl rfl rfl ?_
        refine pr_iload tX8_ends_163 0 rfl ?_
        refine pr_ial tX8_ends_165 d rfl rfl (by omega) (by decide) ?_
        refine pR_topi (y := (nI (S.aw d))) (by have z := hh4; simpa [wmI, show ¬ (d + 1 ≤ d) by omega] using z) ?_
        refine pr_iload_n tX8_ends_166 4 rfl ?_
        refine pr_ic_ne (pc' := 200) tX8_ends_167 rfl (fun hc167 => ?_) (fun hc167 => ?_)
        · skip
          have hc167 : ¬ (S.aw d) = c := fun z9 => hc167 ((nI_eq (by omega) (by omega)).mpr z9)
          refine pr_iinc (v := (dnI d)) (L' := [(4, .inl (dnI d)), (3, .inl (nI f)), (0, .inr (.inr 0)), (1, .inl (nI w)), (2, .inl (nI c))]) tX8_ends_200 0 rfl (dnI_p d) (by decide) rfl ?_
          refine pr_goto (pc' := 143) tX8_ends_203 rfl ?_
          refine pR_sub (L' := [(4, .inl (dnI d)), (3, .inl (nI f)), (0, .inr (.inr 0)), (1, .inl (nI w)), (2, .inl (nI c))]) [0, 1, 2, 3, 4] rfl ?_
          have e9 : ((wmI I S c n (d + 1), J) : pST) = (wmI I S c n d, J) := by rw [wm_f (by omega) (fun z => by first | exact hc156 z.1 | exact hc167 z.2)]
          rw [e9]
          exact ih (by omega)
        · skip
          have hc167 : (S.aw d) = c := (nI_eq (by omega) (by omega)).mp (Decidable.not_not.mp hc167)
          refine pr_aload_n tX8_ends_170 2 rfl ?_
          refine pr_geta (j := 25) tX8_ends_171 rfl rfl rfl rfl ?_
          refine pr_iload tX8_ends_174 0 rfl ?_
          refine pr_iconst (v := nI 0) tX8_ends_176 rfl ?_
          refine pr_ias tX8_ends_177 d rfl rfl (by omega) (by decide) ?_
          obtain ⟨σ1, eσ1⟩ : ∃ z : pST, z = (pm_ui (wmI I S c n (d + 1), J).1 25 d (nI 0), (wmI I S c n (d + 1), J).2) := ⟨_, rfl⟩
          rw [← eσ1]
          have hw1 := wkD_le (S := S) (c := c) (r := S.rr) (n - (d + 1)) (d + 1)
          refine pr_aload_n tX8_ends_178 2 rfl ?_
          refine pr_iload tX8_ends_179 0 rfl ?_
          refine pr_aload_n tX8_ends_181 2 rfl ?_
          refine pr_get0 tX8_ends_182 rfl rfl rfl ?_
          refine pR_topi (y := (nI (wkD S c S.rr (n - (d + 1)) (d + 1)))) (by simp [eσ1, pm_ui_a, wmI]) ?_
          refine pr_ic_ge (pc' := 193) tX8_ends_185 rfl (fun hc185 => ?_) (fun hc185 => ?_)
          · skip
            have hc185 : (wkD S c S.rr (n - (d + 1)) (d + 1)) ≤ d := (nI_leI (by omega) (by omega)).mp hc185
            refine pr_aload_n tX8_ends_193 2 rfl ?_
            refine pr_get0 tX8_ends_194 rfl rfl rfl ?_
            refine pR_topi (y := (nI (wkD S c S.rr (n - (d + 1)) (d + 1)))) (by simp [eσ1, pm_ui_a, wmI]) ?_
            refine pr_put0 tX8_ends_197 rfl rfl rfl ?_
            obtain ⟨σ2, eσ2⟩ : ∃ z : pST, z = (pm_ui σ1.1 0 37 (nI (wkD S c S.rr (n - (d + 1)) (d + 1))), σ1.2) := ⟨_, rfl⟩
            rw [← eσ2]
            refine pr_iinc (v := (dnI d)) (L' := [(4, .inl (dnI d)), (3, .inl (nI f)), (0, .inr (.inr 0)), (1, .inl (nI w)), (2, .inl (nI c))]) tX8_ends_200 0 rfl (dnI_p d) (by decide) rfl ?_
            refine pr_goto (pc' := 143) tX8_ends_203 rfl ?_
            refine pR_sub (L' := [(4, .inl (dnI d)), (3, .inl (nI f)), (0, .inr (.inr 0)), (1, .inl (nI w)), (2, .inl (nI c))]) [0, 1, 2, 3, 4] rfl ?_
            have e9 : σ2 = (wmI I S c n d, J) := by rw [eσ2, eσ1]; exact Prod.ext (wm_t (by omega) ⟨hc156, hc167⟩ (by omega)) rfl
            rw [e9]
            exact ih (by omega)
          · skip
            have hc185 : ¬ (wkD S c S.rr (n - (d + 1)) (d + 1)) ≤ d := fun z9 => hc185 ((nI_leI (by omega) (by omega)).mpr z9)
            refine pr_iload tX8_ends_188 0 rfl ?_
            refine pr_goto (pc' := 197) tX8_ends_190 rfl ?_
            refine pr_put0 tX8_ends_197 rfl rfl rfl ?_
            obtain ⟨σ3, eσ3⟩ : ∃ z : pST, z = (pm_ui σ1.1 0 37 (nI d), σ1.2) := ⟨_, rfl⟩
            rw [← eσ3]
            refine pr_iinc (v := (dnI d)) (L' := [(4, .inl (dnI d)), (3, .inl (nI f)), (0, .inr (.inr 0)), (1, .inl (nI w)), (2, .inl (nI c))]) tX8_ends_200 0 rfl (dnI_p d) (by decide) rfl ?_
            refine pr_goto (pc' := 143) tX8_ends_203 rfl ?_
            refine pR_sub (L' := [(4, .inl (dnI d)), (3, .inl (nI f)), (0, .inr (.inr 0)), (1, .inl (nI w)), (2, .inl (nI c))]) [0, 1, 2, 3, 4] rfl ?_
            have e9 : σ3 = (wmI I S c n d, J) := by rw [eσ3, eσ1]; exact Prod.ext (wm_t (by omega) ⟨hc156, hc167⟩ (by omega)) rfl
            rw [e9]
            exact ih (by omega)

set_option maxRecDepth 100000 in
theorem ev_X8_ends_n (σ : pST) {S : RnS} {w c nm n lr : Nat} (hw : w < 4) (hc : c < 16) (hnm : σ.1 26 c = nI nm) (hn : σ.1 0 1 = nI n) (hn1 : n ≤ 16) (hrr : σ.1 0 37 = nI S.rr) (hr1 : S.rr ≤ 16) (hlr : σ.1 0 38 = nI lr) (hl1 : lr ≤ 16) (hH : ∀ i, i < n → (if i = c then nI 2 else σ.1 25 i) = nI (S.hw i) ∧ S.hw i ≤ 3 ∧ (S.hw i = 3 → σ.1 27 i = nI (S.aw i) ∧ S.aw i < 16)) (hlt : lr ≤ c) : kX8_ends σ [.inr (.inr 0), .inl (nI w), .inl (nI c)] = some ((((wmI (pm_ui (epI σ c (nI nm) 32) 25 c (nI 2)) S c n 0), (epJ σ c 32)), none)) := by
  have key : ∃ x_, kX8_ends σ [.inr (.inr 0), .inl (nI w), .inl (nI c)] = some x_ ∧ x_ = (((wmI (pm_ui (epI σ c (nI nm) 32) 25 c (nI 2)) S c n 0), (epJ σ c 32)), none) := by
    refine pR_met (post := fun x_ => x_ = (((wmI (pm_ui (epI σ c (nI nm) 32) 25 c (nI 2)) S c n 0), (epJ σ c 32)), none)) rfl (Nat.le_of_ble_eq_true rfl) ?_
    show pR _ _ _ _ _ _ _ _ 0 [(0, .inr (.inr 0)), (1, .inl (nI w)), (2, .inl (nI c))] [] σ
    refine pr_iconst (v := nI 0) tX8_ends_0 rfl ?_
    refine pr_istore_n (L' := [(3, .inl (nI 0)), (0, .inr (.inr 0)), (1, .inl (nI w)), (2, .inl (nI c))]) tX8_ends_1 (by decide) rfl ?_
    refine pr_iconst (v := nI 0) tX8_ends_2 rfl ?_
    refine pr_istore (L' := [(4, .inl (nI 0)), (3, .inl (nI 0)), (0, .inr (.inr 0)), (1, .inl (nI w)), (2, .inl (nI c))]) tX8_ends_3 (by decide) rfl ?_
    refine pR_sub (L' := [(4, .inl (nI 0)), (3, .inl (nI 0)), (0, .inr (.inr 0)), (1, .inl (nI w)), (2, .inl (nI c))]) [0, 1, 2, 3, 4] rfl ?_
    have z := lp_X8_ends σ (w := w) hc hnm (post := fun x_ => x_ = (((wmI (pm_ui (epI σ c (nI nm) 32) 25 c (nI 2)) S c n 0), (epJ σ c 32)), none)) ?_ 32 0 (by omega)
    · rw [ep_0] at z
      exact z
    refine pr_aload_n tX8_ends_128 1 rfl ?_
    refine pr_geta (j := 25) tX8_ends_129 rfl rfl rfl rfl ?_
    refine pr_iload_n tX8_ends_132 3 rfl ?_
    refine pr_iconst (v := nI 2) tX8_ends_133 rfl ?_
    refine pr_ias tX8_ends_134 c rfl rfl (by omega) (by decide) ?_
    obtain ⟨σ1, eσ1⟩ : ∃ z : pST, z = (pm_ui (epI σ c (nI nm) 32, epJ σ c 32).1 25 c (nI 2), (epI σ c (nI nm) 32, epJ σ c 32).2) := ⟨_, rfl⟩
    rw [← eσ1]
    refine pr_aload_n tX8_ends_135 1 rfl ?_
    refine pr_get0 tX8_ends_136 rfl rfl rfl ?_
    refine pR_topi (y := (nI n)) (by simp [eσ1, pm_ui_a, ep_o, hn]) ?_
    refine pr_iconst (v := nI 1) tX8_ends_139 rfl ?_
    refine pr_isub (v := (dnI n)) tX8_ends_140 (dnI_s n) ?_
    refine pr_istore (L' := [(4, .inl (dnI n)), (3, .inl (nI (frM σ c 32))), (0, .inr (.inr 0)), (1, .inl (nI w)), (2, .inl (nI c))]) tX8_ends_141 (by decide) rfl ?_
    rw [eσ1]
    refine pR_sub (L' := [(4, .inl (dnI n)), (3, .inl (nI (frM σ c 32))), (0, .inr (.inr 0)), (1, .inl (nI w)), (2, .inl (nI c))]) [0, 1, 2, 3, 4] rfl ?_
    have z := lw_X8_ends (I := (pm_ui (epI σ c (nI nm) 32) 25 c (nI 2))) (J := (epJ σ c 32)) (S := S) (w := w) (c := c) (n := n) (f := frM σ c 32) (post := fun x_ => x_ = (((wmI (pm_ui (epI σ c (nI nm) 32) 25 c (nI 2)) S c n 0), (epJ σ c 32)), none)) hc hn1 hr1 (fun i hi => ?_) ?_ n (Nat.le_refl _)
    · rw [wm_n (by simp [pm_ui_a, ep_o, hrr])] at z
      exact z
    · rw [pm_ui_a, pm_ui_a]
      have q := hH i hi
      rw [if_neg (show ¬ (27 = 25 ∧ i = c) from fun z => absurd z.1 (by decide)), ep_o (by decide) (by decide) (by decide), ep_o (by decide) (by decide) (by decide)]
      have e : (if 25 = 25 ∧ i = c then nI 2 else σ.1 25 i) = (if i = c then nI 2 else σ.1 25 i) := by
        by_cases z : i = c
        · rw [if_pos ⟨rfl, z⟩, if_pos z]
        · rw [if_neg (fun y => z y.2), if_neg z]
      rw [e]
      exact q
    have hf1 := frM_le (σ := σ) (c := c) 32
    refine pr_aload_n tX8_ends_206 1 rfl ?_
    refine pr_get0 tX8_ends_207 rfl rfl rfl ?_
    refine pR_topi (y := (nI lr)) (by simp [wmI, pm_ui_a, ep_o, hlr]) ?_
    refine pr_iload_n tX8_ends_210 3 rfl ?_
    refine pr_ic_le (pc' := 232) tX8_ends_211 rfl (fun hc211 => ?_) (fun hc211 => ?_)
    · skip
      have hc211 : lr ≤ c := (nI_leI (by omega) (by omega)).mp hc211
      refine pr_ret tX8_ends_232 rfl ?_
      rfl
    · skip
      exact absurd ((nI_leI (by omega) (by omega)).mpr hlt) hc211
  obtain ⟨x_, h1, h2⟩ := key
  rw [h1, h2]

set_option maxRecDepth 100000 in
theorem ev_X8_ends_f (σ : pST) {S : RnS} {w c nm n lr : Nat} (hw : w < 4) (hc : c < 16) (hnm : σ.1 26 c = nI nm) (hn : σ.1 0 1 = nI n) (hn1 : n ≤ 16) (hrr : σ.1 0 37 = nI S.rr) (hr1 : S.rr ≤ 16) (hlr : σ.1 0 38 = nI lr) (hl1 : lr ≤ 16) (hH : ∀ i, i < n → (if i = c then nI 2 else σ.1 25 i) = nI (S.hw i) ∧ S.hw i ≤ 3 ∧ (S.hw i = 3 → σ.1 27 i = nI (S.aw i) ∧ S.aw i < 16)) (hlt : c < lr) (hf : ¬ frM σ c 32 = 0) : kX8_ends σ [.inr (.inr 0), .inl (nI w), .inl (nI c)] = some (((pm_ui (wmI (pm_ui (epI σ c (nI nm) 32) 25 c (nI 2)) S c n 0) 0 38 (nI c), (epJ σ c 32)), none)) := by
  have key : ∃ x_, kX8_ends σ [.inr (.inr 0), .inl (nI w), .inl (nI c)] = some x_ ∧ x_ = ((pm_ui (wmI (pm_ui (epI σ c (nI nm) 32) 25 c (nI 2)) S c n 0) 0 38 (nI c), (epJ σ c 32)), none) := by
    refine pR_met (post := fun x_ => x_ = ((pm_ui (wmI (pm_ui (epI σ c (nI nm) 32) 25 c (nI 2)) S c n 0) 0 38 (nI c), (epJ σ c 32)), none)) rfl (Nat.le_of_ble_eq_true rfl) ?_
    show pR _ _ _ _ _ _ _ _ 0 [(0, .inr (.inr 0)), (1, .inl (nI w)), (2, .inl (nI c))] [] σ
    refine pr_iconst (v := nI 0) tX8_ends_0 rfl ?_
    refine pr_istore_n (L' := [(3, .inl (nI 0)), (0, .inr (.inr 0)), (1, .inl (nI w)), (2, .inl (nI c))]) tX8_ends_1 (by decide) rfl ?_
    refine pr_iconst (v := nI 0) tX8_ends_2 rfl ?_
    refine pr_istore (L' := [(4, .inl (nI 0)), (3, .inl (nI 0)), (0, .inr (.inr 0)), (1, .inl (nI w)), (2, .inl (nI c))]) tX8_ends_3 (by decide) rfl ?_
    refine pR_sub (L' := [(4, .inl (nI 0)), (3, .inl (nI 0)), (0, .inr (.inr 0)), (1, .inl (nI w)), (2, .inl (nI c))]) [0, 1, 2, 3, 4] rfl ?_
    have z := lp_X8_ends σ (w := w) hc hnm (post := fun x_ => x_ = ((pm_ui (wmI (pm_ui (epI σ c (nI nm) 32) 25 c (nI 2)) S c n 0) 0 38 (nI c), (epJ σ c 32)), none)) ?_ 32 0 (by omega)
    · rw [ep_0] at z
      exact z
    refine pr_aload_n tX8_ends_128 1 rfl ?_
    refine pr_geta (j := 25) tX8_ends_129 rfl rfl rfl rfl ?_
    refine pr_iload_n tX8_ends_132 3 rfl ?_
    refine pr_iconst (v := nI 2) tX8_ends_133 rfl ?_
    refine pr_ias tX8_ends_134 c rfl rfl (by omega) (by decide) ?_
    obtain ⟨σ1, eσ1⟩ : ∃ z : pST, z = (pm_ui (epI σ c (nI nm) 32, epJ σ c 32).1 25 c (nI 2), (epI σ c (nI nm) 32, epJ σ c 32).2) := ⟨_, rfl⟩
    rw [← eσ1]
    refine pr_aload_n tX8_ends_135 1 rfl ?_
    refine pr_get0 tX8_ends_136 rfl rfl rfl ?_
    refine pR_topi (y := (nI n)) (by simp [eσ1, pm_ui_a, ep_o, hn]) ?_
    refine pr_iconst (v := nI 1) tX8_ends_139 rfl ?_
    refine pr_isub (v := (dnI n)) tX8_ends_140 (dnI_s n) ?_
    refine pr_istore (L' := [(4, .inl (dnI n)), (3, .inl (nI (frM σ c 32))), (0, .inr (.inr 0)), (1, .inl (nI w)), (2, .inl (nI c))]) tX8_ends_141 (by decide) rfl ?_
    rw [eσ1]
    refine pR_sub (L' := [(4, .inl (dnI n)), (3, .inl (nI (frM σ c 32))), (0, .inr (.inr 0)), (1, .inl (nI w)), (2, .inl (nI c))]) [0, 1, 2, 3, 4] rfl ?_
    have z := lw_X8_ends (I := (pm_ui (epI σ c (nI nm) 32) 25 c (nI 2))) (J := (epJ σ c 32)) (S := S) (w := w) (c := c) (n := n) (f := frM σ c 32) (post := fun x_ => x_ = ((pm_ui (wmI (pm_ui (epI σ c (nI nm) 32) 25 c (nI 2)) S c n 0) 0 38 (nI c), (epJ σ c 32)), none)) hc hn1 hr1 (fun i hi => ?_) ?_ n (Nat.le_refl _)
    · rw [wm_n (by simp [pm_ui_a, ep_o, hrr])] at z
      exact z
    · rw [pm_ui_a, pm_ui_a]
      have q := hH i hi
      rw [if_neg (show ¬ (27 = 25 ∧ i = c) from fun z => absurd z.1 (by decide)), ep_o (by decide) (by decide) (by decide), ep_o (by decide) (by decide) (by decide)]
      have e : (if 25 = 25 ∧ i = c then nI 2 else σ.1 25 i) = (if i = c then nI 2 else σ.1 25 i) := by
        by_cases z : i = c
        · rw [if_pos ⟨rfl, z⟩, if_pos z]
        · rw [if_neg (fun y => z y.2), if_neg z]
      rw [e]
      exact q
    have hf1 := frM_le (σ := σ) (c := c) 32
    refine pr_aload_n tX8_ends_206 1 rfl ?_
    refine pr_get0 tX8_ends_207 rfl rfl rfl ?_
    refine pR_topi (y := (nI lr)) (by simp [wmI, pm_ui_a, ep_o, hlr]) ?_
    refine pr_iload_n tX8_ends_210 3 rfl ?_
    refine pr_ic_le (pc' := 232) tX8_ends_211 rfl (fun hc211 => ?_) (fun hc211 => ?_)
    · skip
      exact absurd ((nI_leI (by omega) (by omega)).mp hc211) (by omega)
    · skip
      have hc211 : ¬ lr ≤ c := fun z9 => hc211 ((nI_leI (by omega) (by omega)).mpr z9)
      refine pr_iload_n tX8_ends_214 0 rfl ?_
      refine pr_if_eq (pc' := 226) tX8_ends_215 rfl (fun hc215 => ?_) (fun hc215 => ?_)
      · skip
        exact absurd ((nI_eq (by omega) (by omega)).mp (by rw [nI_0]; exact hc215)) hf
      · skip
        skip
        refine pr_aload_n tX8_ends_218 1 rfl ?_
        refine pr_iload_n tX8_ends_219 3 rfl ?_
        refine pr_put0 tX8_ends_220 rfl rfl rfl ?_
        obtain ⟨σ1, eσ1⟩ : ∃ z : pST, z = (pm_ui ((wmI (pm_ui (epI σ c (nI nm) 32) 25 c (nI 2)) S c n 0), (epJ σ c 32)).1 0 38 (nI c), ((wmI (pm_ui (epI σ c (nI nm) 32) 25 c (nI 2)) S c n 0), (epJ σ c 32)).2) := ⟨_, rfl⟩
        rw [← eσ1]
        refine pr_goto (pc' := 232) tX8_ends_223 rfl ?_
        refine pr_ret tX8_ends_232 rfl ?_
        rw [eσ1]
        try rfl
  obtain ⟨x_, h1, h2⟩ := key
  rw [h1, h2]

set_option maxRecDepth 100000 in
theorem ev_X8_ends_l (σ : pST) {S : RnS} {w c nm n lr : Nat} (hw : w < 4) (hc : c < 16) (hnm : σ.1 26 c = nI nm) (hn : σ.1 0 1 = nI n) (hn1 : n ≤ 16) (hrr : σ.1 0 37 = nI S.rr) (hr1 : S.rr ≤ 16) (hlr : σ.1 0 38 = nI lr) (hl1 : lr ≤ 16) (hH : ∀ i, i < n → (if i = c then nI 2 else σ.1 25 i) = nI (S.hw i) ∧ S.hw i ≤ 3 ∧ (S.hw i = 3 → σ.1 27 i = nI (S.aw i) ∧ S.aw i < 16)) {ρ : pST} (hlt : c < lr) (hf : frM σ c 32 = 0) (hg : kX8_toLook ((wmI (pm_ui (epI σ c (nI nm) 32) 25 c (nI 2)) S c n 0), (epJ σ c 32)) [.inr (.inr 0), .inl (nI w), .inl (nI c)] = some (ρ, none)) : kX8_ends σ [.inr (.inr 0), .inl (nI w), .inl (nI c)] = some ((ρ, none)) := by
  have key : ∃ x_, kX8_ends σ [.inr (.inr 0), .inl (nI w), .inl (nI c)] = some x_ ∧ x_ = (ρ, none) := by
    refine pR_met (post := fun x_ => x_ = (ρ, none)) rfl (Nat.le_of_ble_eq_true rfl) ?_
    show pR _ _ _ _ _ _ _ _ 0 [(0, .inr (.inr 0)), (1, .inl (nI w)), (2, .inl (nI c))] [] σ
    refine pr_iconst (v := nI 0) tX8_ends_0 rfl ?_
    refine pr_istore_n (L' := [(3, .inl (nI 0)), (0, .inr (.inr 0)), (1, .inl (nI w)), (2, .inl (nI c))]) tX8_ends_1 (by decide) rfl ?_
    refine pr_iconst (v := nI 0) tX8_ends_2 rfl ?_
    refine pr_istore (L' := [(4, .inl (nI 0)), (3, .inl (nI 0)), (0, .inr (.inr 0)), (1, .inl (nI w)), (2, .inl (nI c))]) tX8_ends_3 (by decide) rfl ?_
    refine pR_sub (L' := [(4, .inl (nI 0)), (3, .inl (nI 0)), (0, .inr (.inr 0)), (1, .inl (nI w)), (2, .inl (nI c))]) [0, 1, 2, 3, 4] rfl ?_
    have z := lp_X8_ends σ (w := w) hc hnm (post := fun x_ => x_ = (ρ, none)) ?_ 32 0 (by omega)
    · rw [ep_0] at z
      exact z
    refine pr_aload_n tX8_ends_128 1 rfl ?_
    refine pr_geta (j := 25) tX8_ends_129 rfl rfl rfl rfl ?_
    refine pr_iload_n tX8_ends_132 3 rfl ?_
    refine pr_iconst (v := nI 2) tX8_ends_133 rfl ?_
    refine pr_ias tX8_ends_134 c rfl rfl (by omega) (by decide) ?_
    obtain ⟨σ1, eσ1⟩ : ∃ z : pST, z = (pm_ui (epI σ c (nI nm) 32, epJ σ c 32).1 25 c (nI 2), (epI σ c (nI nm) 32, epJ σ c 32).2) := ⟨_, rfl⟩
    rw [← eσ1]
    refine pr_aload_n tX8_ends_135 1 rfl ?_
    refine pr_get0 tX8_ends_136 rfl rfl rfl ?_
    refine pR_topi (y := (nI n)) (by simp [eσ1, pm_ui_a, ep_o, hn]) ?_
    refine pr_iconst (v := nI 1) tX8_ends_139 rfl ?_
    refine pr_isub (v := (dnI n)) tX8_ends_140 (dnI_s n) ?_
    refine pr_istore (L' := [(4, .inl (dnI n)), (3, .inl (nI (frM σ c 32))), (0, .inr (.inr 0)), (1, .inl (nI w)), (2, .inl (nI c))]) tX8_ends_141 (by decide) rfl ?_
    rw [eσ1]
    refine pR_sub (L' := [(4, .inl (dnI n)), (3, .inl (nI (frM σ c 32))), (0, .inr (.inr 0)), (1, .inl (nI w)), (2, .inl (nI c))]) [0, 1, 2, 3, 4] rfl ?_
    have z := lw_X8_ends (I := (pm_ui (epI σ c (nI nm) 32) 25 c (nI 2))) (J := (epJ σ c 32)) (S := S) (w := w) (c := c) (n := n) (f := frM σ c 32) (post := fun x_ => x_ = (ρ, none)) hc hn1 hr1 (fun i hi => ?_) ?_ n (Nat.le_refl _)
    · rw [wm_n (by simp [pm_ui_a, ep_o, hrr])] at z
      exact z
    · rw [pm_ui_a, pm_ui_a]
      have q := hH i hi
      rw [if_neg (show ¬ (27 = 25 ∧ i = c) from fun z => absurd z.1 (by decide)), ep_o (by decide) (by decide) (by decide), ep_o (by decide) (by decide) (by decide)]
      have e : (if 25 = 25 ∧ i = c then nI 2 else σ.1 25 i) = (if i = c then nI 2 else σ.1 25 i) := by
        by_cases z : i = c
        · rw [if_pos ⟨rfl, z⟩, if_pos z]
        · rw [if_neg (fun y => z y.2), if_neg z]
      rw [e]
      exact q
    have hf1 := frM_le (σ := σ) (c := c) 32
    refine pr_aload_n tX8_ends_206 1 rfl ?_
    refine pr_get0 tX8_ends_207 rfl rfl rfl ?_
    refine pR_topi (y := (nI lr)) (by simp [wmI, pm_ui_a, ep_o, hlr]) ?_
    refine pr_iload_n tX8_ends_210 3 rfl ?_
    refine pr_ic_le (pc' := 232) tX8_ends_211 rfl (fun hc211 => ?_) (fun hc211 => ?_)
    · skip
      exact absurd ((nI_leI (by omega) (by omega)).mp hc211) (by omega)
    · skip
      have hc211 : ¬ lr ≤ c := fun z9 => hc211 ((nI_leI (by omega) (by omega)).mpr z9)
      refine pr_iload_n tX8_ends_214 0 rfl ?_
      refine pr_if_eq (pc' := 226) tX8_ends_215 rfl (fun hc215 => ?_) (fun hc215 => ?_)
      · skip
        skip
        refine pr_aload_n tX8_ends_226 1 rfl ?_
        refine pr_iload_n tX8_ends_227 2 rfl ?_
        refine pr_iload_n tX8_ends_228 3 rfl ?_
        refine pr_callV tX8_ends_229 rfl ⟨Nat.le_of_ble_eq_true rfl, Nat.le_of_ble_eq_true rfl, rfl⟩ (hg) ?_
        refine pR_eq (st' := []) rfl rfl ?_
        refine pr_ret tX8_ends_232 rfl ?_
        rfl
      · skip
        exact absurd (by rw [hf, nI_0]) hc215
  obtain ⟨x_, h1, h2⟩ := key
  rw [h1, h2]
