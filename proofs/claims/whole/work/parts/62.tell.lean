/-! ===== shapes by number, counting loops, the tellers ===== -/
theorem shB {b : Nat} (hb : b = 9 ∨ b = 153) : shX b = .inl 1 ∧ shX (b + 1) = .inl 4 ∧ shX (b + 2) = .inr (1, 32) ∧ shX (b + 3) = .inr (0, 512) ∧ shX (b + 4) = .inr (0, 512) ∧ shX (b + 5) = .inr (1, 512) ∧ shX (b + 6) = .inr (3, 16) := by
  rcases hb with rfl | rfl <;> decide
theorem shA {b c : Nat} (hb : b = 9 ∨ b = 153) (hc : c < 16) : shX (b + 7 + 8 * c) = .inl 0 ∧ shX (b + 7 + 8 * c + 1) = .inr (1, 32) ∧ shX (b + 7 + 8 * c + 2) = .inr (1, 12) ∧ shX (b + 7 + 8 * c + 3) = .inr (1, 4) ∧ shX (b + 7 + 8 * c + 4) = .inr (1, 32) ∧ shX (b + 7 + 8 * c + 5) = .inr (0, 12) ∧ shX (b + 7 + 8 * c + 6) = .inr (0, 12) ∧ shX (b + 7 + 8 * c + 7) = .inr (0, 12) := by
  have h1 : ∀ c, c < 16 → shX (9 + 7 + 8 * c) = .inl 0 ∧ shX (9 + 7 + 8 * c + 1) = .inr (1, 32) ∧ shX (9 + 7 + 8 * c + 2) = .inr (1, 12) ∧ shX (9 + 7 + 8 * c + 3) = .inr (1, 4) ∧ shX (9 + 7 + 8 * c + 4) = .inr (1, 32) ∧ shX (9 + 7 + 8 * c + 5) = .inr (0, 12) ∧ shX (9 + 7 + 8 * c + 6) = .inr (0, 12) ∧ shX (9 + 7 + 8 * c + 7) = .inr (0, 12) := by decide
  have h2 : ∀ c, c < 16 → shX (153 + 7 + 8 * c) = .inl 0 ∧ shX (153 + 7 + 8 * c + 1) = .inr (1, 32) ∧ shX (153 + 7 + 8 * c + 2) = .inr (1, 12) ∧ shX (153 + 7 + 8 * c + 3) = .inr (1, 4) ∧ shX (153 + 7 + 8 * c + 4) = .inr (1, 32) ∧ shX (153 + 7 + 8 * c + 5) = .inr (0, 12) ∧ shX (153 + 7 + 8 * c + 6) = .inr (0, 12) ∧ shX (153 + 7 + 8 * c + 7) = .inr (0, 12) := by decide
  rcases hb with rfl | rfl
  · exact h1 c hc
  · exact h2 c hc
def sumA (f : Nat → Int32) : Nat → Int32
  | 0 => 0
  | n + 1 => sumA f n + f n
def cntG (f : Nat → Int32) : Nat → Int32
  | 0 => 0
  | n + 1 => if f n = nI n then cntG f n + 1 else cntG f n
theorem cntG_t {f : Nat → Int32} {n : Nat} (h : f n = nI n) : cntG f n + 1 = cntG f (n + 1) := (if_pos h).symm
theorem cntG_f {f : Nat → Int32} {n : Nat} (h : ¬ f n = nI n) : cntG f n = cntG f (n + 1) := (if_neg h).symm

set_option maxRecDepth 100000 in
theorem lp_X1_countActs (σ : pST) {b n : Nat} (hb : b = 9 ∨ b = 153) (hn : n ≤ 16) (h : σ.1 b 2 = nI n) : ∀ (m i : Nat), i + m = n → pR shX tX1_countActs fX1_countActs qX1_countActs lX1_countActs 3 1 (fun x => x = (σ, some (.inl (sumA (fun c => σ.1 (b + 7 + 8 * c) 2) n)))) 4 [(2, .inl (nI i)), (1, .inl (sumA (fun c => σ.1 (b + 7 + 8 * c) 2) i)), (0, .inr (.inr b))] [] σ := by
  intro m
  induction m with
  | zero =>
    intro i hi
    refine pr_iload_n tX1_countActs_4 0 rfl ?_
    refine pr_aload_n tX1_countActs_5 2 rfl ?_
    refine pr_get0 tX1_countActs_6 rfl (shB hb).1 rfl ?_
    refine pR_topi (y := (nI n)) (by simp [pm_ui, pm_uj, upd, vp_updL, h]) ?_
    refine pr_ic_ge (pc' := 30) tX1_countActs_9 rfl (fun hc9 => ?_) (fun hc9 => ?_)
    · skip
      have hc9 : n ≤ i := (nI_leI (by omega) (by omega)).mp hc9
      refine pr_iload_n tX1_countActs_30 1 rfl ?_
      refine pr_iret tX1_countActs_31 rfl ?_
      rw [show i = n by omega]
    · skip
      exact absurd ((nI_leI (by omega) (by omega)).mpr (by omega)) hc9
  | succ m ih =>
    intro i hi
    refine pr_iload_n tX1_countActs_4 0 rfl ?_
    refine pr_aload_n tX1_countActs_5 2 rfl ?_
    refine pr_get0 tX1_countActs_6 rfl (shB hb).1 rfl ?_
    refine pR_topi (y := (nI n)) (by simp [pm_ui, pm_uj, upd, vp_updL, h]) ?_
    refine pr_ic_ge (pc' := 30) tX1_countActs_9 rfl (fun hc9 => ?_) (fun hc9 => ?_)
    · skip
      exact absurd ((nI_leI (by omega) (by omega)).mp hc9) (by omega)
    · skip
      have hc9 : ¬ n ≤ i := fun z9 => hc9 ((nI_leI (by omega) (by omega)).mpr z9)
      refine pr_iload_n tX1_countActs_12 1 rfl ?_
      refine pr_aload_n tX1_countActs_13 2 rfl ?_
      refine pr_geta (j := b + 6) tX1_countActs_14 rfl (shB hb).1 rfl rfl ?_
      refine pr_iload_n tX1_countActs_17 0 rfl ?_
      refine pr_aal (a := b + 7 + 8 * i) tX1_countActs_18 i (shB hb).2.2.2.2.2.2 rfl (by omega) (by decide) rfl ?_
      refine pr_get0 tX1_countActs_19 rfl (shA hb (show i < 16 by omega)).1 rfl ?_
      refine pr_iadd (v := (sumA (fun c => σ.1 (b + 7 + 8 * c) 2) (i + 1))) tX1_countActs_22 (rfl) ?_
      refine pr_istore_n (L' := [(1, .inl (sumA (fun c => σ.1 (b + 7 + 8 * c) 2) (i + 1))), (2, .inl (nI i)), (0, .inr (.inr b))]) tX1_countActs_23 (by decide) rfl ?_
      refine pr_iinc (v := (nI (i + 1))) (L' := [(2, .inl (nI (i + 1))), (1, .inl (sumA (fun c => σ.1 (b + 7 + 8 * c) 2) (i + 1))), (0, .inr (.inr b))]) tX1_countActs_24 1 rfl (nI_1 _) (by decide) rfl ?_
      refine pr_goto (pc' := 4) tX1_countActs_27 rfl ?_
      refine pR_sub (L' := [(2, .inl (nI (i + 1))), (1, .inl (sumA (fun c => σ.1 (b + 7 + 8 * c) 2) (i + 1))), (0, .inr (.inr b))]) [0, 1, 2] rfl ?_
      exact ih (i + 1) (by omega)

set_option maxRecDepth 100000 in
theorem ev_X1_countActs (σ : pST) {b n : Nat} (hb : b = 9 ∨ b = 153) (hn : n ≤ 16) (h : σ.1 b 2 = nI n) : kX1_countActs σ [.inr (.inr b)] = some ((σ, some (.inl (sumA (fun c => σ.1 (b + 7 + 8 * c) 2) n)))) := by
  have key : ∃ x, kX1_countActs σ [.inr (.inr b)] = some x ∧ x = (σ, some (.inl (sumA (fun c => σ.1 (b + 7 + 8 * c) 2) n))) := by
    refine pR_met (post := fun x => x = (σ, some (.inl (sumA (fun c => σ.1 (b + 7 + 8 * c) 2) n)))) (shB hb).1 (Nat.le_of_ble_eq_true rfl) ?_
    show pR _ _ _ _ _ _ _ _ 0 [(0, .inr (.inr b))] [] σ
    refine pr_iconst (v := nI 0) tX1_countActs_0 rfl ?_
    refine pr_istore_n (L' := [(1, .inl (nI 0)), (0, .inr (.inr b))]) tX1_countActs_1 (by decide) rfl ?_
    refine pr_iconst (v := nI 0) tX1_countActs_2 rfl ?_
    refine pr_istore_n (L' := [(2, .inl (nI 0)), (1, .inl (nI 0)), (0, .inr (.inr b))]) tX1_countActs_3 (by decide) rfl ?_
    refine pR_sub (L' := [(2, .inl (nI 0)), (1, .inl (sumA (fun c => σ.1 (b + 7 + 8 * c) 2) 0)), (0, .inr (.inr b))]) [0, 1, 2] rfl ?_
    exact lp_X1_countActs σ hb hn h n 0 (by omega)
  obtain ⟨x, h1, h2⟩ := key
  rw [h1, h2]

set_option maxRecDepth 100000 in
theorem lp_X1_countEvents (σ : pST) {b n : Nat} (hb : b = 9 ∨ b = 153) (hn : n ≤ 16) (h : σ.1 b 2 = nI n) : ∀ (m i : Nat), i + m = n → pR shX tX1_countEvents fX1_countEvents qX1_countEvents lX1_countEvents 3 1 (fun x => x = (σ, some (.inl (sumA (fun c => σ.1 (b + 7 + 8 * c) 6) n)))) 4 [(2, .inl (nI i)), (1, .inl (sumA (fun c => σ.1 (b + 7 + 8 * c) 6) i)), (0, .inr (.inr b))] [] σ := by
  intro m
  induction m with
  | zero =>
    intro i hi
    refine pr_iload_n tX1_countEvents_4 0 rfl ?_
    refine pr_aload_n tX1_countEvents_5 2 rfl ?_
    refine pr_get0 tX1_countEvents_6 rfl (shB hb).1 rfl ?_
    refine pR_topi (y := (nI n)) (by simp [pm_ui, pm_uj, upd, vp_updL, h]) ?_
    refine pr_ic_ge (pc' := 30) tX1_countEvents_9 rfl (fun hc9 => ?_) (fun hc9 => ?_)
    · skip
      have hc9 : n ≤ i := (nI_leI (by omega) (by omega)).mp hc9
      refine pr_iload_n tX1_countEvents_30 1 rfl ?_
      refine pr_iret tX1_countEvents_31 rfl ?_
      rw [show i = n by omega]
    · skip
      exact absurd ((nI_leI (by omega) (by omega)).mpr (by omega)) hc9
  | succ m ih =>
    intro i hi
    refine pr_iload_n tX1_countEvents_4 0 rfl ?_
    refine pr_aload_n tX1_countEvents_5 2 rfl ?_
    refine pr_get0 tX1_countEvents_6 rfl (shB hb).1 rfl ?_
    refine pR_topi (y := (nI n)) (by simp [pm_ui, pm_uj, upd, vp_updL, h]) ?_
    refine pr_ic_ge (pc' := 30) tX1_countEvents_9 rfl (fun hc9 => ?_) (fun hc9 => ?_)
    · skip
      exact absurd ((nI_leI (by omega) (by omega)).mp hc9) (by omega)
    · skip
      have hc9 : ¬ n ≤ i := fun z9 => hc9 ((nI_leI (by omega) (by omega)).mpr z9)
      refine pr_iload_n tX1_countEvents_12 1 rfl ?_
      refine pr_aload_n tX1_countEvents_13 2 rfl ?_
      refine pr_geta (j := b + 6) tX1_countEvents_14 rfl (shB hb).1 rfl rfl ?_
      refine pr_iload_n tX1_countEvents_17 0 rfl ?_
      refine pr_aal (a := b + 7 + 8 * i) tX1_countEvents_18 i (shB hb).2.2.2.2.2.2 rfl (by omega) (by decide) rfl ?_
      refine pr_get0 tX1_countEvents_19 rfl (shA hb (show i < 16 by omega)).1 rfl ?_
      refine pr_iadd (v := (sumA (fun c => σ.1 (b + 7 + 8 * c) 6) (i + 1))) tX1_countEvents_22 (rfl) ?_
      refine pr_istore_n (L' := [(1, .inl (sumA (fun c => σ.1 (b + 7 + 8 * c) 6) (i + 1))), (2, .inl (nI i)), (0, .inr (.inr b))]) tX1_countEvents_23 (by decide) rfl ?_
      refine pr_iinc (v := (nI (i + 1))) (L' := [(2, .inl (nI (i + 1))), (1, .inl (sumA (fun c => σ.1 (b + 7 + 8 * c) 6) (i + 1))), (0, .inr (.inr b))]) tX1_countEvents_24 1 rfl (nI_1 _) (by decide) rfl ?_
      refine pr_goto (pc' := 4) tX1_countEvents_27 rfl ?_
      refine pR_sub (L' := [(2, .inl (nI (i + 1))), (1, .inl (sumA (fun c => σ.1 (b + 7 + 8 * c) 6) (i + 1))), (0, .inr (.inr b))]) [0, 1, 2] rfl ?_
      exact ih (i + 1) (by omega)

set_option maxRecDepth 100000 in
theorem ev_X1_countEvents (σ : pST) {b n : Nat} (hb : b = 9 ∨ b = 153) (hn : n ≤ 16) (h : σ.1 b 2 = nI n) : kX1_countEvents σ [.inr (.inr b)] = some ((σ, some (.inl (sumA (fun c => σ.1 (b + 7 + 8 * c) 6) n)))) := by
  have key : ∃ x, kX1_countEvents σ [.inr (.inr b)] = some x ∧ x = (σ, some (.inl (sumA (fun c => σ.1 (b + 7 + 8 * c) 6) n))) := by
    refine pR_met (post := fun x => x = (σ, some (.inl (sumA (fun c => σ.1 (b + 7 + 8 * c) 6) n)))) (shB hb).1 (Nat.le_of_ble_eq_true rfl) ?_
    show pR _ _ _ _ _ _ _ _ 0 [(0, .inr (.inr b))] [] σ
    refine pr_iconst (v := nI 0) tX1_countEvents_0 rfl ?_
    refine pr_istore_n (L' := [(1, .inl (nI 0)), (0, .inr (.inr b))]) tX1_countEvents_1 (by decide) rfl ?_
    refine pr_iconst (v := nI 0) tX1_countEvents_2 rfl ?_
    refine pr_istore_n (L' := [(2, .inl (nI 0)), (1, .inl (nI 0)), (0, .inr (.inr b))]) tX1_countEvents_3 (by decide) rfl ?_
    refine pR_sub (L' := [(2, .inl (nI 0)), (1, .inl (sumA (fun c => σ.1 (b + 7 + 8 * c) 6) 0)), (0, .inr (.inr b))]) [0, 1, 2] rfl ?_
    exact lp_X1_countEvents σ hb hn h n 0 (by omega)
  obtain ⟨x, h1, h2⟩ := key
  rw [h1, h2]

set_option maxRecDepth 100000 in
theorem lp_X1_countGroups (σ : pST) {b n : Nat} (hb : b = 9 ∨ b = 153) (hn : n ≤ 16) (h : σ.1 b 2 = nI n) : ∀ (m i : Nat), i + m = n → pR shX tX1_countGroups fX1_countGroups qX1_countGroups lX1_countGroups 3 1 (fun x => x = (σ, some (.inl (cntG (fun c => σ.1 (b + 7 + 8 * c) 7) n)))) 4 [(2, .inl (nI i)), (1, .inl (cntG (fun c => σ.1 (b + 7 + 8 * c) 7) i)), (0, .inr (.inr b))] [] σ := by
  intro m
  induction m with
  | zero =>
    intro i hi
    refine pr_iload_n tX1_countGroups_4 0 rfl ?_
    refine pr_aload_n tX1_countGroups_5 2 rfl ?_
    refine pr_get0 tX1_countGroups_6 rfl (shB hb).1 rfl ?_
    refine pR_topi (y := (nI n)) (by simp [pm_ui, pm_uj, upd, vp_updL, h]) ?_
    refine pr_ic_ge (pc' := 34) tX1_countGroups_9 rfl (fun hc9 => ?_) (fun hc9 => ?_)
    · skip
      have hc9 : n ≤ i := (nI_leI (by omega) (by omega)).mp hc9
      refine pr_iload_n tX1_countGroups_34 1 rfl ?_
      refine pr_iret tX1_countGroups_35 rfl ?_
      rw [show i = n by omega]
    · skip
      exact absurd ((nI_leI (by omega) (by omega)).mpr (by omega)) hc9
  | succ m ih =>
    intro i hi
    refine pr_iload_n tX1_countGroups_4 0 rfl ?_
    refine pr_aload_n tX1_countGroups_5 2 rfl ?_
    refine pr_get0 tX1_countGroups_6 rfl (shB hb).1 rfl ?_
    refine pR_topi (y := (nI n)) (by simp [pm_ui, pm_uj, upd, vp_updL, h]) ?_
    refine pr_ic_ge (pc' := 34) tX1_countGroups_9 rfl (fun hc9 => ?_) (fun hc9 => ?_)
    · skip
      exact absurd ((nI_leI (by omega) (by omega)).mp hc9) (by omega)
    · skip
      have hc9 : ¬ n ≤ i := fun z9 => hc9 ((nI_leI (by omega) (by omega)).mpr z9)
      refine pr_aload_n tX1_countGroups_12 2 rfl ?_
      refine pr_geta (j := b + 6) tX1_countGroups_13 rfl (shB hb).1 rfl rfl ?_
      refine pr_iload_n tX1_countGroups_16 0 rfl ?_
      refine pr_aal (a := b + 7 + 8 * i) tX1_countGroups_17 i (shB hb).2.2.2.2.2.2 rfl (by omega) (by decide) rfl ?_
      refine pr_get0 tX1_countGroups_18 rfl (shA hb (show i < 16 by omega)).1 rfl ?_
      refine pr_iload_n tX1_countGroups_21 0 rfl ?_
      refine pr_ic_ne (pc' := 28) tX1_countGroups_22 rfl (fun hc22 => ?_) (fun hc22 => ?_)
      · skip
        refine pr_iinc (v := (nI (i + 1))) (L' := [(2, .inl (nI (i + 1))), (1, .inl (cntG (fun c => σ.1 (b + 7 + 8 * c) 7) i)), (0, .inr (.inr b))]) tX1_countGroups_28 0 rfl (nI_1 _) (by decide) rfl ?_
        refine pr_goto (pc' := 4) tX1_countGroups_31 rfl ?_
        refine pR_sub (L' := [(2, .inl (nI (i + 1))), (1, .inl (cntG (fun c => σ.1 (b + 7 + 8 * c) 7) i)), (0, .inr (.inr b))]) [0, 1, 2] rfl ?_
        have e9 : cntG (fun c => σ.1 (b + 7 + 8 * c) 7) i = cntG (fun c => σ.1 (b + 7 + 8 * c) 7) (i + 1) := cntG_f hc22
        rw [e9]
        exact ih (i + 1) (by omega)
      · skip
        have hc22 := Decidable.not_not.mp hc22
        refine pr_iinc (v := (cntG (fun c => σ.1 (b + 7 + 8 * c) 7) (i + 1))) (L' := [(1, .inl (cntG (fun c => σ.1 (b + 7 + 8 * c) 7) (i + 1))), (2, .inl (nI i)), (0, .inr (.inr b))]) tX1_countGroups_25 1 rfl (cntG_t (f := (fun c => σ.1 (b + 7 + 8 * c) 7)) hc22) (by decide) rfl ?_
        refine pr_iinc (v := (nI (i + 1))) (L' := [(2, .inl (nI (i + 1))), (1, .inl (cntG (fun c => σ.1 (b + 7 + 8 * c) 7) (i + 1))), (0, .inr (.inr b))]) tX1_countGroups_28 1 rfl (nI_1 _) (by decide) rfl ?_
        refine pr_goto (pc' := 4) tX1_countGroups_31 rfl ?_
        refine pR_sub (L' := [(2, .inl (nI (i + 1))), (1, .inl (cntG (fun c => σ.1 (b + 7 + 8 * c) 7) (i + 1))), (0, .inr (.inr b))]) [0, 1, 2] rfl ?_
        exact ih (i + 1) (by omega)

set_option maxRecDepth 100000 in
theorem ev_X1_countGroups (σ : pST) {b n : Nat} (hb : b = 9 ∨ b = 153) (hn : n ≤ 16) (h : σ.1 b 2 = nI n) : kX1_countGroups σ [.inr (.inr b)] = some ((σ, some (.inl (cntG (fun c => σ.1 (b + 7 + 8 * c) 7) n)))) := by
  have key : ∃ x, kX1_countGroups σ [.inr (.inr b)] = some x ∧ x = (σ, some (.inl (cntG (fun c => σ.1 (b + 7 + 8 * c) 7) n))) := by
    refine pR_met (post := fun x => x = (σ, some (.inl (cntG (fun c => σ.1 (b + 7 + 8 * c) 7) n)))) (shB hb).1 (Nat.le_of_ble_eq_true rfl) ?_
    show pR _ _ _ _ _ _ _ _ 0 [(0, .inr (.inr b))] [] σ
    refine pr_iconst (v := nI 0) tX1_countGroups_0 rfl ?_
    refine pr_istore_n (L' := [(1, .inl (nI 0)), (0, .inr (.inr b))]) tX1_countGroups_1 (by decide) rfl ?_
    refine pr_iconst (v := nI 0) tX1_countGroups_2 rfl ?_
    refine pr_istore_n (L' := [(2, .inl (nI 0)), (1, .inl (nI 0)), (0, .inr (.inr b))]) tX1_countGroups_3 (by decide) rfl ?_
    refine pR_sub (L' := [(2, .inl (nI 0)), (1, .inl (cntG (fun c => σ.1 (b + 7 + 8 * c) 7) 0)), (0, .inr (.inr b))]) [0, 1, 2] rfl ?_
    exact lp_X1_countGroups σ hb hn h n 0 (by omega)
  obtain ⟨x, h1, h2⟩ := key
  rw [h1, h2]
