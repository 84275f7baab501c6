/-! ===== leaves: fill, table, attempt ===== -/
abbrev isA (a : Nat) : Prop := shX a = .inl 0 ∧ shX (a + 1) = .inr (1, 32) ∧ shX (a + 2) = .inr (1, 12) ∧ shX (a + 3) = .inr (1, 4) ∧ shX (a + 4) = .inr (1, 32) ∧ shX (a + 5) = .inr (0, 12) ∧ shX (a + 6) = .inr (0, 12) ∧ shX (a + 7) = .inr (0, 12)
abbrev isT (t : Nat) : Prop := shX t = .inl 4 ∧ shX (t + 1) = .inr (1, 32) ∧ shX (t + 2) = .inr (0, 512) ∧ shX (t + 3) = .inr (0, 512) ∧ shX (t + 4) = .inr (1, 512)
def dnI : Nat → Int32
  | 0 => -1
  | c + 1 => nI c
theorem dnI_p : ∀ c, nI c + Int32.ofInt (-1) = dnI c
  | 0 => by decide
  | c + 1 => pk_m1 c
theorem dnI_s : ∀ c, nI c - nI 1 = dnI c
  | 0 => by decide
  | c + 1 => nI_pred c
/-- the greatest call below c that has an entry of leaf k, in a row of states -/
def wbN (st : Nat → Int32) (k : Nat) : Nat → Int32
  | 0 => -1
  | c + 1 => if st (k * 16 + c) = 0 then wbN st k c else nI c
def filI (I : Nat → Nat → Int32) (a n : Nat) (v : Int32) : Nat → Nat → Int32 := fun x y => if x = a ∧ y < n then v else I x y
def filJ (J : Nat → Nat → Int64) (a n : Nat) (v : Int64) : Nat → Nat → Int64 := fun x y => if x = a ∧ y < n then v else J x y
theorem filI_s {I : Nat → Nat → Int32} {a n : Nat} {v : Int32} : pm_ui (filI I a n v) a n v = filI I a (n + 1) v := by
  funext x y
  unfold pm_ui filI
  by_cases hx : x = a
  · subst hx
    by_cases hy : y = n
    · subst hy; simp [upd]
    · simp only [if_true, upd, hy, if_false]
      by_cases h1 : y < n
      · simp [h1, Nat.lt_succ_of_lt h1]
      · have h2 : ¬ y < n + 1 := by omega
        simp [h1, h2]
  · simp [hx]
theorem filJ_s {J : Nat → Nat → Int64} {a n : Nat} {v : Int64} : pm_uj (filJ J a n v) a n v = filJ J a (n + 1) v := by
  funext x y
  unfold pm_uj filJ
  by_cases hx : x = a
  · subst hx
    by_cases hy : y = n
    · subst hy; simp [vp_updL]
    · simp only [if_true, vp_updL, hy, if_false]
      by_cases h1 : y < n
      · simp [h1, Nat.lt_succ_of_lt h1]
      · have h2 : ¬ y < n + 1 := by omega
        simp [h1, h2]
  · simp [hx]
theorem filI_0 {I : Nat → Nat → Int32} {a : Nat} {v : Int32} : filI I a 0 v = I := by funext x y; simp [filI]
theorem filJ_0 {J : Nat → Nat → Int64} {a : Nat} {v : Int64} : filJ J a 0 v = J := by funext x y; simp [filJ]

set_option maxRecDepth 100000 in
theorem lp_J7_fill_53178 (σ : pST) {q n : Nat} (hq : shX q = .inr (0, n)) (hn : n < 2 ^ 31) (v : Int32) : ∀ (m i : Nat), i + m = n → pR shX tJ7_fill_53178 fJ7_fill_53178 qJ7_fill_53178 lJ7_fill_53178 4 0 (fun x => x = ((filI σ.1 q n v, σ.2), none)) 5 [(2, .inl (nI i)), (3, .inl (nI n)), (0, .inr (.inr q)), (1, .inl v)] [] (filI σ.1 q i v, σ.2) := by
  intro m
  induction m with
  | zero =>
    intro i hi
    refine pr_iload_n tJ7_fill_53178_5 0 rfl ?_
    refine pr_iload_n tJ7_fill_53178_6 1 rfl ?_
    refine pr_ic_ge (pc' := 20) tJ7_fill_53178_7 rfl (fun hc7 => ?_) (fun hc7 => ?_)
    · skip
      have hc7 : n ≤ i := (nI_leI (by omega) (by omega)).mp hc7
      refine pr_ret tJ7_fill_53178_20 rfl ?_
      rw [show i = n by omega]
    · skip
      exact absurd ((nI_leI (by omega) (by omega)).mpr (by omega)) hc7
  | succ m ih =>
    intro i hi
    refine pr_iload_n tJ7_fill_53178_5 0 rfl ?_
    refine pr_iload_n tJ7_fill_53178_6 1 rfl ?_
    refine pr_ic_ge (pc' := 20) tJ7_fill_53178_7 rfl (fun hc7 => ?_) (fun hc7 => ?_)
    · skip
      exact absurd ((nI_leI (by omega) (by omega)).mp hc7) (by omega)
    · skip
      have hc7 : ¬ n ≤ i := fun z9 => hc7 ((nI_leI (by omega) (by omega)).mpr z9)
      refine pr_aload_n tJ7_fill_53178_10 2 rfl ?_
      refine pr_iload_n tJ7_fill_53178_11 0 rfl ?_
      refine pr_iload_n tJ7_fill_53178_12 3 rfl ?_
      refine pr_ias tJ7_fill_53178_13 i hq rfl (by omega) hn ?_
      obtain ⟨σ1, eσ1⟩ : ∃ z : pST, z = (pm_ui (filI σ.1 q i v, σ.2).1 q i v, (filI σ.1 q i v, σ.2).2) := ⟨_, rfl⟩
      rw [← eσ1]
      refine pr_iinc (v := (nI (i + 1))) (L' := [(2, .inl (nI (i + 1))), (3, .inl (nI n)), (0, .inr (.inr q)), (1, .inl v)]) tJ7_fill_53178_14 0 rfl (nI_1 _) (by decide) rfl ?_
      refine pr_goto (pc' := 5) tJ7_fill_53178_17 rfl ?_
      refine pR_sub (L' := [(2, .inl (nI (i + 1))), (3, .inl (nI n)), (0, .inr (.inr q)), (1, .inl v)]) [0, 1, 2, 3] rfl ?_
      rw [eσ1, show ((pm_ui (filI σ.1 q i v, σ.2).1 q i v, (filI σ.1 q i v, σ.2).2) : pST) = (filI σ.1 q (i + 1) v, σ.2) from by rw [filI_s]]
      exact ih (i + 1) (by omega)

set_option maxRecDepth 100000 in
theorem ev_J7_fill_53178 (σ : pST) {q n : Nat} (hq : shX q = .inr (0, n)) (hn : n < 2 ^ 31) (v : Int32) : kJ7_fill_53178 σ [.inr (.inr q), .inl v] = some (((filI σ.1 q n v, σ.2), none)) := by
  have key : ∃ x, kJ7_fill_53178 σ [.inr (.inr q), .inl v] = some x ∧ x = ((filI σ.1 q n v, σ.2), none) := by
    refine pR_metS (post := fun x => x = ((filI σ.1 q n v, σ.2), none)) (Nat.le_of_ble_eq_true rfl) ?_
    show pR _ _ _ _ _ _ _ _ 0 [(0, .inr (.inr q)), (1, .inl v)] [] σ
    refine pr_iconst (v := nI 0) tJ7_fill_53178_0 rfl ?_
    refine pr_istore_n (L' := [(2, .inl (nI 0)), (0, .inr (.inr q)), (1, .inl v)]) tJ7_fill_53178_1 (by decide) rfl ?_
    refine pr_aload_n tJ7_fill_53178_2 1 rfl ?_
    refine pr_al0 tJ7_fill_53178_3 hq ?_
    refine pr_istore_n (L' := [(3, .inl (nI n)), (2, .inl (nI 0)), (0, .inr (.inr q)), (1, .inl v)]) tJ7_fill_53178_4 (by decide) rfl ?_
    refine pR_sub (L' := [(2, .inl (nI 0)), (3, .inl (nI n)), (0, .inr (.inr q)), (1, .inl v)]) [1, 0, 2, 3] rfl ?_
    have h9 := lp_J7_fill_53178 σ hq hn v n 0 (by omega)
    rw [filI_0] at h9
    exact h9
  obtain ⟨x, h1, h2⟩ := key
  rw [h1, h2]

set_option maxRecDepth 100000 in
theorem lp_J7_fill_d0a16 (σ : pST) {q n : Nat} (hq : shX q = .inr (1, n)) (hn : n < 2 ^ 31) (v : Int64) : ∀ (m i : Nat), i + m = n → pR shX tJ7_fill_d0a16 fJ7_fill_d0a16 qJ7_fill_d0a16 lJ7_fill_d0a16 5 0 (fun x => x = ((σ.1, filJ σ.2 q n v), none)) 6 [(3, .inl (nI i)), (4, .inl (nI n)), (0, .inr (.inr q)), (1, .inr (.inl v))] [] (σ.1, filJ σ.2 q i v) := by
  intro m
  induction m with
  | zero =>
    intro i hi
    refine pr_iload_n tJ7_fill_d0a16_6 0 rfl ?_
    refine pr_iload tJ7_fill_d0a16_7 1 rfl ?_
    refine pr_ic_ge (pc' := 22) tJ7_fill_d0a16_9 rfl (fun hc9 => ?_) (fun hc9 => ?_)
    · skip
      have hc9 : n ≤ i := (nI_leI (by omega) (by omega)).mp hc9
      refine pr_ret tJ7_fill_d0a16_22 rfl ?_
      rw [show i = n by omega]
    · skip
      exact absurd ((nI_leI (by omega) (by omega)).mpr (by omega)) hc9
  | succ m ih =>
    intro i hi
    refine pr_iload_n tJ7_fill_d0a16_6 0 rfl ?_
    refine pr_iload tJ7_fill_d0a16_7 1 rfl ?_
    refine pr_ic_ge (pc' := 22) tJ7_fill_d0a16_9 rfl (fun hc9 => ?_) (fun hc9 => ?_)
    · skip
      exact absurd ((nI_leI (by omega) (by omega)).mp hc9) (by omega)
    · skip
      have hc9 : ¬ n ≤ i := fun z9 => hc9 ((nI_leI (by omega) (by omega)).mpr z9)
      refine pr_aload_n tJ7_fill_d0a16_12 2 rfl ?_
      refine pr_iload_n tJ7_fill_d0a16_13 0 rfl ?_
      refine pr_lload_n tJ7_fill_d0a16_14 3 rfl ?_
      refine pr_las tJ7_fill_d0a16_15 i hq rfl (by omega) hn ?_
      obtain ⟨σ1, eσ1⟩ : ∃ z : pST, z = ((σ.1, filJ σ.2 q i v).1, pm_uj (σ.1, filJ σ.2 q i v).2 q i v) := ⟨_, rfl⟩
      rw [← eσ1]
      refine pr_iinc (v := (nI (i + 1))) (L' := [(3, .inl (nI (i + 1))), (4, .inl (nI n)), (0, .inr (.inr q)), (1, .inr (.inl v))]) tJ7_fill_d0a16_16 0 rfl (nI_1 _) (by decide) rfl ?_
      refine pr_goto (pc' := 6) tJ7_fill_d0a16_19 rfl ?_
      refine pR_sub (L' := [(3, .inl (nI (i + 1))), (4, .inl (nI n)), (0, .inr (.inr q)), (1, .inr (.inl v))]) [0, 1, 2, 3] rfl ?_
      rw [eσ1, show (((σ.1, filJ σ.2 q i v).1, pm_uj (σ.1, filJ σ.2 q i v).2 q i v) : pST) = (σ.1, filJ σ.2 q (i + 1) v) from by rw [filJ_s]]
      exact ih (i + 1) (by omega)

set_option maxRecDepth 100000 in
theorem ev_J7_fill_d0a16 (σ : pST) {q n : Nat} (hq : shX q = .inr (1, n)) (hn : n < 2 ^ 31) (v : Int64) : kJ7_fill_d0a16 σ [.inr (.inr q), .inr (.inl v)] = some (((σ.1, filJ σ.2 q n v), none)) := by
  have key : ∃ x, kJ7_fill_d0a16 σ [.inr (.inr q), .inr (.inl v)] = some x ∧ x = ((σ.1, filJ σ.2 q n v), none) := by
    refine pR_metS (post := fun x => x = ((σ.1, filJ σ.2 q n v), none)) (Nat.le_of_ble_eq_true rfl) ?_
    show pR _ _ _ _ _ _ _ _ 0 [(0, .inr (.inr q)), (1, .inr (.inl v))] [] σ
    refine pr_iconst (v := nI 0) tJ7_fill_d0a16_0 rfl ?_
    refine pr_istore_n (L' := [(3, .inl (nI 0)), (0, .inr (.inr q)), (1, .inr (.inl v))]) tJ7_fill_d0a16_1 (by decide) rfl ?_
    refine pr_aload_n tJ7_fill_d0a16_2 1 rfl ?_
    refine pr_al1 tJ7_fill_d0a16_3 hq ?_
    refine pr_istore (L' := [(4, .inl (nI n)), (3, .inl (nI 0)), (0, .inr (.inr q)), (1, .inr (.inl v))]) tJ7_fill_d0a16_4 (by decide) rfl ?_
    refine pR_sub (L' := [(3, .inl (nI 0)), (4, .inl (nI n)), (0, .inr (.inr q)), (1, .inr (.inl v))]) [1, 0, 2, 3] rfl ?_
    have h9 := lp_J7_fill_d0a16 σ hq hn v n 0 (by omega)
    rw [filJ_0] at h9
    exact h9
  obtain ⟨x, h1, h2⟩ := key
  rw [h1, h2]

set_option maxRecDepth 100000 in
theorem lp_X5_writerBelow (σ : pST) {t k : Nat} (ht : isT t) (hk : k < 32) : ∀ (c : Nat), c ≤ 16 → pR shX tX5_writerBelow fX5_writerBelow qX5_writerBelow lX5_writerBelow 4 1 (fun x => x = (σ, some (.inl (wbN (σ.1 (t + 2)) k (c))))) 4 [(3, .inl (dnI c)), (1, .inl (nI k)), (0, .inr (.inr t))] [] σ := by
  intro c
  induction c with
  | zero =>
    intro _
    show pR shX tX5_writerBelow fX5_writerBelow qX5_writerBelow lX5_writerBelow 4 1 (fun x => x = (σ, some (.inl (wbN (σ.1 (t + 2)) k (0))))) 4 [(3, .inl (-1)), (1, .inl (nI k)), (0, .inr (.inr t))] [] σ
    refine pr_iload_n tX5_writerBelow_4 0 rfl ?_
    refine pr_if_lt (pc' := 30) tX5_writerBelow_5 rfl (fun hc5 => ?_) (fun hc5 => ?_)
    · skip
      skip
      refine pr_iconst (v := -1) tX5_writerBelow_30 rfl ?_
      refine pr_iret tX5_writerBelow_31 rfl ?_
      rfl
    · skip
      exact absurd (by decide) hc5
  | succ c ih =>
    intro hc
    show pR shX tX5_writerBelow fX5_writerBelow qX5_writerBelow lX5_writerBelow 4 1 (fun x => x = (σ, some (.inl (wbN (σ.1 (t + 2)) k (c + 1))))) 4 [(3, .inl (nI c)), (1, .inl (nI k)), (0, .inr (.inr t))] [] σ
    refine pr_iload_n tX5_writerBelow_4 0 rfl ?_
    refine pr_if_lt (pc' := 30) tX5_writerBelow_5 rfl (fun hc5 => ?_) (fun hc5 => ?_)
    · skip
      exact absurd hc5 (nI_pos (by omega))
    · skip
      refine pr_aload_n tX5_writerBelow_8 2 rfl ?_
      refine pr_geta (j := t + 2) tX5_writerBelow_9 rfl ht.1 rfl rfl ?_
      refine pr_iload_n tX5_writerBelow_12 1 rfl ?_
      refine pr_bipush (v := nI 16) tX5_writerBelow_13 rfl ?_
      refine pr_imul (v := (nI (k * 16))) tX5_writerBelow_15 (pk_mul _ _) ?_
      refine pr_iload_n tX5_writerBelow_16 0 rfl ?_
      refine pr_iadd (v := (nI (k * 16 + c))) tX5_writerBelow_17 (nI_add _ _) ?_
      refine pr_ial tX5_writerBelow_18 (k * 16 + c) ht.2.2.1 rfl (by omega) (by decide) ?_
      refine pr_if_eq (pc' := 24) tX5_writerBelow_19 rfl (fun hc19 => ?_) (fun hc19 => ?_)
      · skip
        refine pr_iinc (v := (dnI c)) (L' := [(3, .inl (dnI c)), (1, .inl (nI k)), (0, .inr (.inr t))]) tX5_writerBelow_24 0 rfl (dnI_p c) (by decide) rfl ?_
        refine pr_goto (pc' := 4) tX5_writerBelow_27 rfl ?_
        rw [show wbN (σ.1 (t + 2)) k (c + 1) = wbN (σ.1 (t + 2)) k c from if_pos hc19]
        refine pR_sub (L' := [(3, .inl (dnI c)), (1, .inl (nI k)), (0, .inr (.inr t))]) [0, 1, 2] rfl ?_
        exact ih (by omega)
      · skip
        refine pr_iload_n tX5_writerBelow_22 0 rfl ?_
        refine pr_iret tX5_writerBelow_23 rfl ?_
        rw [show wbN (σ.1 (t + 2)) k (c + 1) = nI c from if_neg hc19]

set_option maxRecDepth 100000 in
theorem ev_X5_writerBelow (σ : pST) {t k c : Nat} (ht : isT t) (hk : k < 32) (hc : c ≤ 16) : kX5_writerBelow σ [.inr (.inr t), .inl (nI k), .inl (nI c)] = some ((σ, some (.inl (wbN (σ.1 (t + 2)) k (c))))) := by
  have key : ∃ x, kX5_writerBelow σ [.inr (.inr t), .inl (nI k), .inl (nI c)] = some x ∧ x = (σ, some (.inl (wbN (σ.1 (t + 2)) k (c)))) := by
    refine pR_met (post := fun x => x = (σ, some (.inl (wbN (σ.1 (t + 2)) k (c))))) ht.1 (Nat.le_of_ble_eq_true rfl) ?_
    show pR _ _ _ _ _ _ _ _ 0 [(0, .inr (.inr t)), (1, .inl (nI k)), (2, .inl (nI c))] [] σ
    refine pr_iload_n tX5_writerBelow_0 2 rfl ?_
    refine pr_iconst (v := nI 1) tX5_writerBelow_1 rfl ?_
    refine pr_isub (v := (dnI c)) tX5_writerBelow_2 (dnI_s c) ?_
    refine pr_istore_n (L' := [(3, .inl (dnI c)), (0, .inr (.inr t)), (1, .inl (nI k)), (2, .inl (nI c))]) tX5_writerBelow_3 (by decide) rfl ?_
    refine pR_sub (L' := [(3, .inl (dnI c)), (1, .inl (nI k)), (0, .inr (.inr t))]) [0, 2, 1] rfl ?_
    exact lp_X5_writerBelow σ ht hk c hc
  obtain ⟨x, h1, h2⟩ := key
  rw [h1, h2]

theorem nI_m1 {j : Nat} (h : j < 2 ^ 31) : ¬ nI j = -1 := fun e => nI_pos h (by rw [e]; decide)

set_option maxRecDepth 100000 in
theorem ev_X5_isPerhaps_n (σ : pST) {t : Nat} (ht : isT t) (k : Int32) : kX5_isPerhaps σ [.inr (.inr t), .inl k, .inl (-1)] = some ((σ, some (.inl 0))) := by
  have key : ∃ x, kX5_isPerhaps σ [.inr (.inr t), .inl k, .inl (-1)] = some x ∧ x = (σ, some (.inl 0)) := by
    refine pR_met (post := fun x => x = (σ, some (.inl 0))) ht.1 (Nat.le_of_ble_eq_true rfl) ?_
    show pR _ _ _ _ _ _ _ _ 0 [(0, .inr (.inr t)), (1, .inl k), (2, .inl (-1))] [] σ
    refine pr_iload_n tX5_isPerhaps_0 2 rfl ?_
    refine pr_iconst (v := -1) tX5_isPerhaps_1 rfl ?_
    refine pr_ic_eq (pc' := 24) tX5_isPerhaps_2 rfl (fun hc2 => ?_) (fun hc2 => ?_)
    · skip
      refine pr_iconst (v := nI 0) tX5_isPerhaps_24 rfl ?_
      refine pr_zret tX5_isPerhaps_25 rfl (by decide) ?_
      rfl
    · skip
      exact absurd rfl hc2
  obtain ⟨x, h1, h2⟩ := key
  rw [h1, h2]

set_option maxRecDepth 100000 in
theorem ev_X5_isPerhaps_s (σ : pST) {t k j : Nat} (ht : isT t) (hk : k < 32) (hj : j < 16) : kX5_isPerhaps σ [.inr (.inr t), .inl (nI k), .inl (nI j)] = some ((σ, some (.inl (if σ.1 (t + 2) (k * 16 + j) = nI 2 then 1 else 0)))) := by
  have key : ∃ x, kX5_isPerhaps σ [.inr (.inr t), .inl (nI k), .inl (nI j)] = some x ∧ x = (σ, some (.inl (if σ.1 (t + 2) (k * 16 + j) = nI 2 then 1 else 0))) := by
    refine pR_met (post := fun x => x = (σ, some (.inl (if σ.1 (t + 2) (k * 16 + j) = nI 2 then 1 else 0)))) ht.1 (Nat.le_of_ble_eq_true rfl) ?_
    show pR _ _ _ _ _ _ _ _ 0 [(0, .inr (.inr t)), (1, .inl (nI k)), (2, .inl (nI j))] [] σ
    refine pr_iload_n tX5_isPerhaps_0 2 rfl ?_
    refine pr_iconst (v := -1) tX5_isPerhaps_1 rfl ?_
    refine pr_ic_eq (pc' := 24) tX5_isPerhaps_2 rfl (fun hc2 => ?_) (fun hc2 => ?_)
    · skip
      exact absurd hc2 (nI_m1 (by omega))
    · skip
      refine pr_aload_n tX5_isPerhaps_5 0 rfl ?_
      refine pr_geta (j := t + 2) tX5_isPerhaps_6 rfl ht.1 rfl rfl ?_
      refine pr_iload_n tX5_isPerhaps_9 1 rfl ?_
      refine pr_bipush (v := nI 16) tX5_isPerhaps_10 rfl ?_
      refine pr_imul (v := (nI (k * 16))) tX5_isPerhaps_12 (pk_mul _ _) ?_
      refine pr_iload_n tX5_isPerhaps_13 2 rfl ?_
      refine pr_iadd (v := (nI (k * 16 + j))) tX5_isPerhaps_14 (nI_add _ _) ?_
      refine pr_ial tX5_isPerhaps_15 (k * 16 + j) ht.2.2.1 rfl (by omega) (by decide) ?_
      refine pr_iconst (v := nI 2) tX5_isPerhaps_16 rfl ?_
      refine pr_ic_ne (pc' := 24) tX5_isPerhaps_17 rfl (fun hc17 => ?_) (fun hc17 => ?_)
      · skip
        refine pr_iconst (v := nI 0) tX5_isPerhaps_24 rfl ?_
        refine pr_zret tX5_isPerhaps_25 rfl (by decide) ?_
        first | (rw [if_pos (by grind)]; rfl) | (rw [if_neg (by grind)]; rfl)
      · skip
        refine pr_iconst (v := nI 1) tX5_isPerhaps_20 rfl ?_
        refine pr_goto (pc' := 25) tX5_isPerhaps_21 rfl ?_
        refine pr_zret tX5_isPerhaps_25 rfl (by decide) ?_
        first | (rw [if_pos (by grind)]; rfl) | (rw [if_neg (by grind)]; rfl)
  obtain ⟨x, h1, h2⟩ := key
  rw [h1, h2]

set_option maxRecDepth 100000 in
theorem ev_X5_numberOf_n (σ : pST) {t : Nat} (ht : isT t) (k : Int32) : kX5_numberOf σ [.inr (.inr t), .inl k, .inl (-1)] = some ((σ, some (.inl (-1)))) := by
  have key : ∃ x, kX5_numberOf σ [.inr (.inr t), .inl k, .inl (-1)] = some x ∧ x = (σ, some (.inl (-1))) := by
    refine pR_met (post := fun x => x = (σ, some (.inl (-1)))) ht.1 (Nat.le_of_ble_eq_true rfl) ?_
    show pR _ _ _ _ _ _ _ _ 0 [(0, .inr (.inr t)), (1, .inl k), (2, .inl (-1))] [] σ
    refine pr_iload_n tX5_numberOf_0 2 rfl ?_
    refine pr_iconst (v := -1) tX5_numberOf_1 rfl ?_
    refine pr_ic_ne (pc' := 9) tX5_numberOf_2 rfl (fun hc2 => ?_) (fun hc2 => ?_)
    · skip
      exact absurd rfl hc2
    · skip
      refine pr_iconst (v := -1) tX5_numberOf_5 rfl ?_
      refine pr_goto (pc' := 20) tX5_numberOf_6 rfl ?_
      refine pr_iret tX5_numberOf_20 rfl ?_
      rfl
  obtain ⟨x, h1, h2⟩ := key
  rw [h1, h2]

set_option maxRecDepth 100000 in
theorem ev_X5_numberOf_s (σ : pST) {t k j : Nat} (ht : isT t) (hk : k < 32) (hj : j < 16) : kX5_numberOf σ [.inr (.inr t), .inl (nI k), .inl (nI j)] = some ((σ, some (.inl (σ.1 (t + 3) (k * 16 + j))))) := by
  have key : ∃ x, kX5_numberOf σ [.inr (.inr t), .inl (nI k), .inl (nI j)] = some x ∧ x = (σ, some (.inl (σ.1 (t + 3) (k * 16 + j)))) := by
    refine pR_met (post := fun x => x = (σ, some (.inl (σ.1 (t + 3) (k * 16 + j))))) ht.1 (Nat.le_of_ble_eq_true rfl) ?_
    show pR _ _ _ _ _ _ _ _ 0 [(0, .inr (.inr t)), (1, .inl (nI k)), (2, .inl (nI j))] [] σ
    refine pr_iload_n tX5_numberOf_0 2 rfl ?_
    refine pr_iconst (v := -1) tX5_numberOf_1 rfl ?_
    refine pr_ic_ne (pc' := 9) tX5_numberOf_2 rfl (fun hc2 => ?_) (fun hc2 => ?_)
    · skip
      refine pr_aload_n tX5_numberOf_9 0 rfl ?_
      refine pr_geta (j := t + 3) tX5_numberOf_10 rfl ht.1 rfl rfl ?_
      refine pr_iload_n tX5_numberOf_13 1 rfl ?_
      refine pr_bipush (v := nI 16) tX5_numberOf_14 rfl ?_
      refine pr_imul (v := (nI (k * 16))) tX5_numberOf_16 (pk_mul _ _) ?_
      refine pr_iload_n tX5_numberOf_17 2 rfl ?_
      refine pr_iadd (v := (nI (k * 16 + j))) tX5_numberOf_18 (nI_add _ _) ?_
      refine pr_ial tX5_numberOf_19 (k * 16 + j) ht.2.2.2.1 rfl (by omega) (by decide) ?_
      refine pr_iret tX5_numberOf_20 rfl ?_
      rfl
    · skip
      exact absurd (Decidable.not_not.mp hc2) (nI_m1 (by omega))
  obtain ⟨x, h1, h2⟩ := key
  rw [h1, h2]

set_option maxRecDepth 100000 in
theorem ev_X5_valueOf_n (σ : pST) {t k : Nat} (ht : isT t) (hk : k < 32) : kX5_valueOf σ [.inr (.inr t), .inl (nI k), .inl (-1)] = some ((σ, some (.inr (.inl (σ.2 (t + 1) k))))) := by
  have key : ∃ x, kX5_valueOf σ [.inr (.inr t), .inl (nI k), .inl (-1)] = some x ∧ x = (σ, some (.inr (.inl (σ.2 (t + 1) k)))) := by
    refine pR_met (post := fun x => x = (σ, some (.inr (.inl (σ.2 (t + 1) k))))) ht.1 (Nat.le_of_ble_eq_true rfl) ?_
    show pR _ _ _ _ _ _ _ _ 0 [(0, .inr (.inr t)), (1, .inl (nI k)), (2, .inl (-1))] [] σ
    refine pr_iload_n tX5_valueOf_0 2 rfl ?_
    refine pr_iconst (v := -1) tX5_valueOf_1 rfl ?_
    refine pr_ic_ne (pc' := 14) tX5_valueOf_2 rfl (fun hc2 => ?_) (fun hc2 => ?_)
    · skip
      exact absurd rfl hc2
    · skip
      refine pr_aload_n tX5_valueOf_5 0 rfl ?_
      refine pr_geta (j := t + 1) tX5_valueOf_6 rfl ht.1 rfl rfl ?_
      refine pr_iload_n tX5_valueOf_9 1 rfl ?_
      refine pr_lal tX5_valueOf_10 k ht.2.1 rfl (by omega) (by decide) ?_
      refine pr_goto (pc' := 25) tX5_valueOf_11 rfl ?_
      refine pr_lret tX5_valueOf_25 rfl ?_
      rfl
  obtain ⟨x, h1, h2⟩ := key
  rw [h1, h2]

set_option maxRecDepth 100000 in
theorem ev_X5_valueOf_s (σ : pST) {t k j : Nat} (ht : isT t) (hk : k < 32) (hj : j < 16) : kX5_valueOf σ [.inr (.inr t), .inl (nI k), .inl (nI j)] = some ((σ, some (.inr (.inl (σ.2 (t + 4) (k * 16 + j)))))) := by
  have key : ∃ x, kX5_valueOf σ [.inr (.inr t), .inl (nI k), .inl (nI j)] = some x ∧ x = (σ, some (.inr (.inl (σ.2 (t + 4) (k * 16 + j))))) := by
    refine pR_met (post := fun x => x = (σ, some (.inr (.inl (σ.2 (t + 4) (k * 16 + j)))))) ht.1 (Nat.le_of_ble_eq_true rfl) ?_
    show pR _ _ _ _ _ _ _ _ 0 [(0, .inr (.inr t)), (1, .inl (nI k)), (2, .inl (nI j))] [] σ
    refine pr_iload_n tX5_valueOf_0 2 rfl ?_
    refine pr_iconst (v := -1) tX5_valueOf_1 rfl ?_
    refine pr_ic_ne (pc' := 14) tX5_valueOf_2 rfl (fun hc2 => ?_) (fun hc2 => ?_)
    · skip
      refine pr_aload_n tX5_valueOf_14 0 rfl ?_
      refine pr_geta (j := t + 4) tX5_valueOf_15 rfl ht.1 rfl rfl ?_
      refine pr_iload_n tX5_valueOf_18 1 rfl ?_
      refine pr_bipush (v := nI 16) tX5_valueOf_19 rfl ?_
      refine pr_imul (v := (nI (k * 16))) tX5_valueOf_21 (pk_mul _ _) ?_
      refine pr_iload_n tX5_valueOf_22 2 rfl ?_
      refine pr_iadd (v := (nI (k * 16 + j))) tX5_valueOf_23 (nI_add _ _) ?_
      refine pr_lal tX5_valueOf_24 (k * 16 + j) ht.2.2.2.2 rfl (by omega) (by decide) ?_
      refine pr_lret tX5_valueOf_25 rfl ?_
      rfl
    · skip
      exact absurd (Decidable.not_not.mp hc2) (nI_m1 (by omega))
  obtain ⟨x, h1, h2⟩ := key
  rw [h1, h2]
