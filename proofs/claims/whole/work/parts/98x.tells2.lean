/-! ===== Bench.tellEvent ===== -/
theorem sub_n {a b : Nat} (h : b ≤ a) : nI a - nI b = nI (a - b) := by
  unfold nI
  rw [Int32.ofNat_sub _ _ h]

set_option maxRecDepth 100000 in
theorem lp_X1_tellEvent_0 (σ : pST) {n i : Nat} {E : Nat → Nat} (hn : σ.1 9 2 = nI n) (hn1 : n ≤ 16) (hE : ∀ d, d < n → σ.1 (16 + 8 * d) 6 = nI (E d) ∧ E d ≤ 12) (hi : i < 2 ^ 31) {d : Nat} (hd : d < n) (h1 : sumN E d ≤ i) (h2 : i < sumN E d + E d) : ∀ (m c : Nat), c + m = d → pR shX tX1_tellEvent fX1_tellEvent qX1_tellEvent lX1_tellEvent 6 3 (fun x => x = (σ, some (.inr (.inl (σ.2 (16 + 8 * d + 2) (i - sumN E d)))))) 20 [(4, .inl (nI c)), (3, .inl (nI (i - sumN E c))), (0, .inr (.inr 9)), (2, .inl (nI 0))] [] σ := by
  intro m
  induction m with
  | zero =>
    intro c hc
    refine pr_iload tX1_tellEvent_20 0 rfl ?_
    refine pr_aload_n tX1_tellEvent_22 2 rfl ?_
    refine pr_get0 tX1_tellEvent_23 rfl rfl rfl ?_
    refine pR_topi (y := (nI n)) (by simp [pm_ui, pm_uj, upd, vp_updL, hn]) ?_
    refine pr_ic_ge (pc' := 79) tX1_tellEvent_26 rfl (fun hc26 => ?_) (fun hc26 => ?_)
    · skip
      exact absurd ((nI_leI (by omega) (by omega)).mp hc26) (by omega)
    · skip
      have hc26 : ¬ n ≤ c := fun z9 => hc26 ((nI_leI (by omega) (by omega)).mpr z9)
      obtain ⟨he1, he2⟩ := hE c (by omega)
      have ec : c = d := by omega
      subst ec
      refine pr_aload_n tX1_tellEvent_29 2 rfl ?_
      refine pr_geta (j := 15) tX1_tellEvent_30 rfl rfl rfl rfl ?_
      refine pr_iload tX1_tellEvent_33 0 rfl ?_
      refine pr_aal (a := 16 + 8 * c) tX1_tellEvent_35 c rfl rfl (by omega) (by decide) rfl ?_
      refine pr_astore (L' := [(5, .inr (.inr (16 + 8 * c))), (4, .inl (nI c)), (3, .inl (nI (i - sumN E c))), (0, .inr (.inr 9)), (2, .inl (nI 0))]) tX1_tellEvent_36 (by decide) rfl ?_
      refine pr_iload_n tX1_tellEvent_38 2 rfl ?_
      refine pr_aload tX1_tellEvent_39 0 rfl ?_
      refine pr_get0 tX1_tellEvent_41 rfl (isA9 (show c < 16 by omega)).1 rfl ?_
      refine pR_topi (y := (nI (E c))) ((hE c (by omega)).1) ?_
      refine pr_ic_ge (pc' := 65) tX1_tellEvent_44 rfl (fun hc44 => ?_) (fun hc44 => ?_)
      · skip
        exact absurd ((nI_leI (by omega) (by omega)).mp hc44) (by omega)
      · skip
        have hc44 : ¬ (E c) ≤ (i - sumN E c) := fun z9 => hc44 ((nI_leI (by omega) (by omega)).mpr z9)
        refine pr_iload_n tX1_tellEvent_47 4 rfl ?_
        refine pr_if_ne (pc' := 61) tX1_tellEvent_48 rfl (fun hc48 => ?_) (fun hc48 => ?_)
        · skip
          exact absurd hc48 (by decide)
        · skip
          refine pr_aload tX1_tellEvent_51 0 rfl ?_
          refine pr_geta (j := 16 + 8 * c + 2) tX1_tellEvent_53 rfl (isA9 (show c < 16 by omega)).1 rfl rfl ?_
          refine pr_iload_n tX1_tellEvent_56 2 rfl ?_
          refine pr_lal tX1_tellEvent_57 (i - sumN E c) (isA9 (show c < 16 by omega)).2.2.1 rfl (by omega) (by decide) ?_
          refine pr_goto (pc' := 64) tX1_tellEvent_58 rfl ?_
          refine pr_lret tX1_tellEvent_64 rfl ?_
          rfl
  | succ m ih =>
    intro c hc
    refine pr_iload tX1_tellEvent_20 0 rfl ?_
    refine pr_aload_n tX1_tellEvent_22 2 rfl ?_
    refine pr_get0 tX1_tellEvent_23 rfl rfl rfl ?_
    refine pR_topi (y := (nI n)) (by simp [pm_ui, pm_uj, upd, vp_updL, hn]) ?_
    refine pr_ic_ge (pc' := 79) tX1_tellEvent_26 rfl (fun hc26 => ?_) (fun hc26 => ?_)
    · skip
      exact absurd ((nI_leI (by omega) (by omega)).mp hc26) (by omega)
    · skip
      have hc26 : ¬ n ≤ c := fun z9 => hc26 ((nI_leI (by omega) (by omega)).mpr z9)
      obtain ⟨he1, he2⟩ := hE c (by omega)
      have hs := show sumN E (c + 1) = sumN E c + E c from rfl
      have hm := sumN_mono (f := E) (show c + 1 ≤ d by omega)
      refine pr_aload_n tX1_tellEvent_29 2 rfl ?_
      refine pr_geta (j := 15) tX1_tellEvent_30 rfl rfl rfl rfl ?_
      refine pr_iload tX1_tellEvent_33 0 rfl ?_
      refine pr_aal (a := 16 + 8 * c) tX1_tellEvent_35 c rfl rfl (by omega) (by decide) rfl ?_
      refine pr_astore (L' := [(5, .inr (.inr (16 + 8 * c))), (4, .inl (nI c)), (3, .inl (nI (i - sumN E c))), (0, .inr (.inr 9)), (2, .inl (nI 0))]) tX1_tellEvent_36 (by decide) rfl ?_
      refine pr_iload_n tX1_tellEvent_38 2 rfl ?_
      refine pr_aload tX1_tellEvent_39 0 rfl ?_
      refine pr_get0 tX1_tellEvent_41 rfl (isA9 (show c < 16 by omega)).1 rfl ?_
      refine pR_topi (y := (nI (E c))) ((hE c (by omega)).1) ?_
      refine pr_ic_ge (pc' := 65) tX1_tellEvent_44 rfl (fun hc44 => ?_) (fun hc44 => ?_)
      · skip
        have hc44 : (E c) ≤ (i - sumN E c) := (nI_leI (by omega) (by omega)).mp hc44
        refine pr_iload_n tX1_tellEvent_65 2 rfl ?_
        refine pr_aload tX1_tellEvent_66 0 rfl ?_
        refine pr_get0 tX1_tellEvent_68 rfl (isA9 (show c < 16 by omega)).1 rfl ?_
        refine pR_topi (y := (nI (E c))) ((hE c (by omega)).1) ?_
        refine pr_isub (v := (nI (i - sumN E (c + 1)))) tX1_tellEvent_71 ((sub_n (by omega)).trans (by rw [show sumN E (c + 1) = sumN E c + E c from rfl, Nat.sub_sub])) ?_
        refine pr_istore_n (L' := [(3, .inl (nI (i - sumN E (c + 1)))), (5, .inr (.inr (16 + 8 * c))), (4, .inl (nI c)), (0, .inr (.inr 9)), (2, .inl (nI 0))]) tX1_tellEvent_72 (by decide) rfl ?_
        refine pr_iinc (v := (nI (c + 1))) (L' := [(4, .inl (nI (c + 1))), (3, .inl (nI (i - sumN E (c + 1)))), (5, .inr (.inr (16 + 8 * c))), (0, .inr (.inr 9)), (2, .inl (nI 0))]) tX1_tellEvent_73 2 rfl (nI_1 _) (by decide) rfl ?_
        refine pr_goto (pc' := 20) tX1_tellEvent_76 rfl ?_
        refine pR_sub (L' := [(4, .inl (nI (c + 1))), (3, .inl (nI (i - sumN E (c + 1)))), (0, .inr (.inr 9)), (2, .inl (nI 0))]) [0, 1, 3, 4] rfl ?_
        exact ih (c + 1) (by omega)
      · skip
        exact absurd ((nI_leI (by omega) (by omega)).mpr (by omega)) hc44

set_option maxRecDepth 100000 in
theorem ev_X1_tellEvent_0 (σ : pST) {n i : Nat} {E : Nat → Nat} (hn : σ.1 9 2 = nI n) (hn1 : n ≤ 16) (hE : ∀ d, d < n → σ.1 (16 + 8 * d) 6 = nI (E d) ∧ E d ≤ 12) (hi : i < 2 ^ 31) {d : Nat} (hd : d < n) (h1 : sumN E d ≤ i) (h2 : i < sumN E d + E d) : kX1_tellEvent σ [.inr (.inr 9), .inl (nI i), .inl (nI 0)] = some ((σ, some (.inr (.inl (σ.2 (16 + 8 * d + 2) (i - sumN E d)))))) := by
  have key : ∃ x, kX1_tellEvent σ [.inr (.inr 9), .inl (nI i), .inl (nI 0)] = some x ∧ x = (σ, some (.inr (.inl (σ.2 (16 + 8 * d + 2) (i - sumN E d))))) := by
    refine pR_met (post := fun x => x = (σ, some (.inr (.inl (σ.2 (16 + 8 * d + 2) (i - sumN E d)))))) rfl (Nat.le_of_ble_eq_true rfl) ?_
    show pR _ _ _ _ _ _ _ _ 0 [(0, .inr (.inr 9)), (1, .inl (nI i)), (2, .inl (nI 0))] [] σ
    refine pr_iload_n tX1_tellEvent_0 1 rfl ?_
    refine pr_if_lt (pc' := 13) tX1_tellEvent_1 rfl (fun hc1 => ?_) (fun hc1 => ?_)
    · skip
      exact absurd hc1 (nI_pos (by omega))
    · skip
      refine pr_iload_n tX1_tellEvent_4 2 rfl ?_
      refine pr_if_lt (pc' := 13) tX1_tellEvent_5 rfl (fun hc5 => ?_) (fun hc5 => ?_)
      · skip
        exact absurd hc5 (by decide)
      · skip
        refine pr_iload_n tX1_tellEvent_8 2 rfl ?_
        refine pr_iconst (v := nI 1) tX1_tellEvent_9 rfl ?_
        refine pr_ic_le (pc' := 15) tX1_tellEvent_10 rfl (fun hc10 => ?_) (fun hc10 => ?_)
        · skip
          refine pr_iload_n tX1_tellEvent_15 1 rfl ?_
          refine pr_istore_n (L' := [(3, .inl (nI i)), (0, .inr (.inr 9)), (1, .inl (nI i)), (2, .inl (nI 0))]) tX1_tellEvent_16 (by decide) rfl ?_
          refine pr_iconst (v := nI 0) tX1_tellEvent_17 rfl ?_
          refine pr_istore (L' := [(4, .inl (nI 0)), (3, .inl (nI i)), (0, .inr (.inr 9)), (1, .inl (nI i)), (2, .inl (nI 0))]) tX1_tellEvent_18 (by decide) rfl ?_
          refine pR_sub (L' := [(4, .inl (nI 0)), (3, .inl (nI i)), (0, .inr (.inr 9)), (2, .inl (nI 0))]) [0, 1, 2, 4] rfl ?_
          exact lp_X1_tellEvent_0 σ hn hn1 hE hi hd h1 h2 d 0 (Nat.zero_add _)
        · skip
          exact absurd (by decide) hc10
  obtain ⟨x, h1, h2⟩ := key
  rw [h1, h2]

set_option maxRecDepth 100000 in
theorem lp_X1_tellEvent_0n (σ : pST) {n i : Nat} {E : Nat → Nat} (hn : σ.1 9 2 = nI n) (hn1 : n ≤ 16) (hE : ∀ d, d < n → σ.1 (16 + 8 * d) 6 = nI (E d) ∧ E d ≤ 12) (hi : i < 2 ^ 31) (h1 : sumN E n ≤ i) : ∀ (m c : Nat), c + m = n → pR shX tX1_tellEvent fX1_tellEvent qX1_tellEvent lX1_tellEvent 6 3 (fun x => x = (σ, some (.inr (.inl 0)))) 20 [(4, .inl (nI c)), (3, .inl (nI (i - sumN E c))), (0, .inr (.inr 9)), (2, .inl (nI 0))] [] σ := by
  intro m
  induction m with
  | zero =>
    intro c hc
    refine pr_iload tX1_tellEvent_20 0 rfl ?_
    refine pr_aload_n tX1_tellEvent_22 2 rfl ?_
    refine pr_get0 tX1_tellEvent_23 rfl rfl rfl ?_
    refine pR_topi (y := (nI n)) (by simp [pm_ui, pm_uj, upd, vp_updL, hn]) ?_
    refine pr_ic_ge (pc' := 79) tX1_tellEvent_26 rfl (fun hc26 => ?_) (fun hc26 => ?_)
    · skip
      have hc26 : n ≤ c := (nI_leI (by omega) (by omega)).mp hc26
      refine pr_lconst (v := 0) tX1_tellEvent_79 rfl ?_
      refine pr_lret tX1_tellEvent_80 rfl ?_
      rfl
    · skip
      exact absurd ((nI_leI (by omega) (by omega)).mpr (by omega)) hc26
  | succ m ih =>
    intro c hc
    refine pr_iload tX1_tellEvent_20 0 rfl ?_
    refine pr_aload_n tX1_tellEvent_22 2 rfl ?_
    refine pr_get0 tX1_tellEvent_23 rfl rfl rfl ?_
    refine pR_topi (y := (nI n)) (by simp [pm_ui, pm_uj, upd, vp_updL, hn]) ?_
    refine pr_ic_ge (pc' := 79) tX1_tellEvent_26 rfl (fun hc26 => ?_) (fun hc26 => ?_)
    · skip
      exact absurd ((nI_leI (by omega) (by omega)).mp hc26) (by omega)
    · skip
      have hc26 : ¬ n ≤ c := fun z9 => hc26 ((nI_leI (by omega) (by omega)).mpr z9)
      obtain ⟨he1, he2⟩ := hE c (by omega)
      have hs := show sumN E (c + 1) = sumN E c + E c from rfl
      have hm := sumN_mono (f := E) (show c + 1 ≤ n by omega)
      refine pr_aload_n tX1_tellEvent_29 2 rfl ?_
      refine pr_geta (j := 15) tX1_tellEvent_30 rfl rfl rfl rfl ?_
      refine pr_iload tX1_tellEvent_33 0 rfl ?_
      refine pr_aal (a := 16 + 8 * c) tX1_tellEvent_35 c rfl rfl (by omega) (by decide) rfl ?_
      refine pr_astore (L' := [(5, .inr (.inr (16 + 8 * c))), (4, .inl (nI c)), (3, .inl (nI (i - sumN E c))), (0, .inr (.inr 9)), (2, .inl (nI 0))]) tX1_tellEvent_36 (by decide) rfl ?_
      refine pr_iload_n tX1_tellEvent_38 2 rfl ?_
      refine pr_aload tX1_tellEvent_39 0 rfl ?_
      refine pr_get0 tX1_tellEvent_41 rfl (isA9 (show c < 16 by omega)).1 rfl ?_
      refine pR_topi (y := (nI (E c))) ((hE c (by omega)).1) ?_
      refine pr_ic_ge (pc' := 65) tX1_tellEvent_44 rfl (fun hc44 => ?_) (fun hc44 => ?_)
      · skip
        have hc44 : (E c) ≤ (i - sumN E c) := (nI_leI (by omega) (by omega)).mp hc44
        refine pr_iload_n tX1_tellEvent_65 2 rfl ?_
        refine pr_aload tX1_tellEvent_66 0 rfl ?_
        refine pr_get0 tX1_tellEvent_68 rfl (isA9 (show c < 16 by omega)).1 rfl ?_
        refine pR_topi (y := (nI (E c))) ((hE c (by omega)).1) ?_
        refine pr_isub (v := (nI (i - sumN E (c + 1)))) tX1_tellEvent_71 ((sub_n (by omega)).trans (by rw [show sumN E (c + 1) = sumN E c + E c from rfl, Nat.sub_sub])) ?_
        refine pr_istore_n (L' := [(3, .inl (nI (i - sumN E (c + 1)))), (5, .inr (.inr (16 + 8 * c))), (4, .inl (nI c)), (0, .inr (.inr 9)), (2, .inl (nI 0))]) tX1_tellEvent_72 (by decide) rfl ?_
        refine pr_iinc (v := (nI (c + 1))) (L' := [(4, .inl (nI (c + 1))), (3, .inl (nI (i - sumN E (c + 1)))), (5, .inr (.inr (16 + 8 * c))), (0, .inr (.inr 9)), (2, .inl (nI 0))]) tX1_tellEvent_73 2 rfl (nI_1 _) (by decide) rfl ?_
        refine pr_goto (pc' := 20) tX1_tellEvent_76 rfl ?_
        refine pR_sub (L' := [(4, .inl (nI (c + 1))), (3, .inl (nI (i - sumN E (c + 1)))), (0, .inr (.inr 9)), (2, .inl (nI 0))]) [0, 1, 3, 4] rfl ?_
        exact ih (c + 1) (by omega)
      · skip
        exact absurd ((nI_leI (by omega) (by omega)).mpr (by omega)) hc44

set_option maxRecDepth 100000 in
theorem ev_X1_tellEvent_0n (σ : pST) {n i : Nat} {E : Nat → Nat} (hn : σ.1 9 2 = nI n) (hn1 : n ≤ 16) (hE : ∀ d, d < n → σ.1 (16 + 8 * d) 6 = nI (E d) ∧ E d ≤ 12) (hi : i < 2 ^ 31) (h1 : sumN E n ≤ i) : kX1_tellEvent σ [.inr (.inr 9), .inl (nI i), .inl (nI 0)] = some ((σ, some (.inr (.inl 0)))) := by
  have key : ∃ x, kX1_tellEvent σ [.inr (.inr 9), .inl (nI i), .inl (nI 0)] = some x ∧ x = (σ, some (.inr (.inl 0))) := by
    refine pR_met (post := fun x => x = (σ, some (.inr (.inl 0)))) rfl (Nat.le_of_ble_eq_true rfl) ?_
    show pR _ _ _ _ _ _ _ _ 0 [(0, .inr (.inr 9)), (1, .inl (nI i)), (2, .inl (nI 0))] [] σ
    refine pr_iload_n tX1_tellEvent_0 1 rfl ?_
    refine pr_if_lt (pc' := 13) tX1_tellEvent_1 rfl (fun hc1 => ?_) (fun hc1 => ?_)
    · skip
      exact absurd hc1 (nI_pos (by omega))
    · skip
      refine pr_iload_n tX1_tellEvent_4 2 rfl ?_
      refine pr_if_lt (pc' := 13) tX1_tellEvent_5 rfl (fun hc5 => ?_) (fun hc5 => ?_)
      · skip
        exact absurd hc5 (by decide)
      · skip
        refine pr_iload_n tX1_tellEvent_8 2 rfl ?_
        refine pr_iconst (v := nI 1) tX1_tellEvent_9 rfl ?_
        refine pr_ic_le (pc' := 15) tX1_tellEvent_10 rfl (fun hc10 => ?_) (fun hc10 => ?_)
        · skip
          refine pr_iload_n tX1_tellEvent_15 1 rfl ?_
          refine pr_istore_n (L' := [(3, .inl (nI i)), (0, .inr (.inr 9)), (1, .inl (nI i)), (2, .inl (nI 0))]) tX1_tellEvent_16 (by decide) rfl ?_
          refine pr_iconst (v := nI 0) tX1_tellEvent_17 rfl ?_
          refine pr_istore (L' := [(4, .inl (nI 0)), (3, .inl (nI i)), (0, .inr (.inr 9)), (1, .inl (nI i)), (2, .inl (nI 0))]) tX1_tellEvent_18 (by decide) rfl ?_
          refine pR_sub (L' := [(4, .inl (nI 0)), (3, .inl (nI i)), (0, .inr (.inr 9)), (2, .inl (nI 0))]) [0, 1, 2, 4] rfl ?_
          exact lp_X1_tellEvent_0n σ hn hn1 hE hi h1 n 0 (Nat.zero_add _)
        · skip
          exact absurd (by decide) hc10
  obtain ⟨x, h1, h2⟩ := key
  rw [h1, h2]

set_option maxRecDepth 100000 in
theorem lp_X1_tellEvent_1 (σ : pST) {n i : Nat} {E : Nat → Nat} (hn : σ.1 9 2 = nI n) (hn1 : n ≤ 16) (hE : ∀ d, d < n → σ.1 (16 + 8 * d) 6 = nI (E d) ∧ E d ≤ 12) (hi : i < 2 ^ 31) {d : Nat} (hd : d < n) (h1 : sumN E d ≤ i) (h2 : i < sumN E d + E d) : ∀ (m c : Nat), c + m = d → pR shX tX1_tellEvent fX1_tellEvent qX1_tellEvent lX1_tellEvent 6 3 (fun x => x = (σ, some (.inr (.inl ((nI d).toInt64))))) 20 [(4, .inl (nI c)), (3, .inl (nI (i - sumN E c))), (0, .inr (.inr 9)), (2, .inl (nI 1))] [] σ := by
  intro m
  induction m with
  | zero =>
    intro c hc
    refine pr_iload tX1_tellEvent_20 0 rfl ?_
    refine pr_aload_n tX1_tellEvent_22 2 rfl ?_
    refine pr_get0 tX1_tellEvent_23 rfl rfl rfl ?_
    refine pR_topi (y := (nI n)) (by simp [pm_ui, pm_uj, upd, vp_updL, hn]) ?_
    refine pr_ic_ge (pc' := 79) tX1_tellEvent_26 rfl (fun hc26 => ?_) (fun hc26 => ?_)
    · skip
      exact absurd ((nI_leI (by omega) (by omega)).mp hc26) (by omega)
    · skip
      have hc26 : ¬ n ≤ c := fun z9 => hc26 ((nI_leI (by omega) (by omega)).mpr z9)
      obtain ⟨he1, he2⟩ := hE c (by omega)
      have ec : c = d := by omega
      subst ec
      refine pr_aload_n tX1_tellEvent_29 2 rfl ?_
      refine pr_geta (j := 15) tX1_tellEvent_30 rfl rfl rfl rfl ?_
      refine pr_iload tX1_tellEvent_33 0 rfl ?_
      refine pr_aal (a := 16 + 8 * c) tX1_tellEvent_35 c rfl rfl (by omega) (by decide) rfl ?_
      refine pr_astore (L' := [(5, .inr (.inr (16 + 8 * c))), (4, .inl (nI c)), (3, .inl (nI (i - sumN E c))), (0, .inr (.inr 9)), (2, .inl (nI 1))]) tX1_tellEvent_36 (by decide) rfl ?_
      refine pr_iload_n tX1_tellEvent_38 2 rfl ?_
      refine pr_aload tX1_tellEvent_39 0 rfl ?_
      refine pr_get0 tX1_tellEvent_41 rfl (isA9 (show c < 16 by omega)).1 rfl ?_
      refine pR_topi (y := (nI (E c))) ((hE c (by omega)).1) ?_
      refine pr_ic_ge (pc' := 65) tX1_tellEvent_44 rfl (fun hc44 => ?_) (fun hc44 => ?_)
      · skip
        exact absurd ((nI_leI (by omega) (by omega)).mp hc44) (by omega)
      · skip
        have hc44 : ¬ (E c) ≤ (i - sumN E c) := fun z9 => hc44 ((nI_leI (by omega) (by omega)).mpr z9)
        refine pr_iload_n tX1_tellEvent_47 4 rfl ?_
        refine pr_if_ne (pc' := 61) tX1_tellEvent_48 rfl (fun hc48 => ?_) (fun hc48 => ?_)
        · skip
          refine pr_iload tX1_tellEvent_61 1 rfl ?_
          refine pr_i2l (v := (nI c).toInt64) tX1_tellEvent_63 (rfl) ?_
          refine pr_lret tX1_tellEvent_64 rfl ?_
          rfl
        · skip
          exact absurd (by decide) hc48
  | succ m ih =>
    intro c hc
    refine pr_iload tX1_tellEvent_20 0 rfl ?_
    refine pr_aload_n tX1_tellEvent_22 2 rfl ?_
    refine pr_get0 tX1_tellEvent_23 rfl rfl rfl ?_
    refine pR_topi (y := (nI n)) (by simp [pm_ui, pm_uj, upd, vp_updL, hn]) ?_
    refine pr_ic_ge (pc' := 79) tX1_tellEvent_26 rfl (fun hc26 => ?_) (fun hc26 => ?_)
    · skip
      exact absurd ((nI_leI (by omega) (by omega)).mp hc26) (by omega)
    · skip
      have hc26 : ¬ n ≤ c := fun z9 => hc26 ((nI_leI (by omega) (by omega)).mpr z9)
      obtain ⟨he1, he2⟩ := hE c (by omega)
      have hs := show sumN E (c + 1) = sumN E c + E c from rfl
      have hm := sumN_mono (f := E) (show c + 1 ≤ d by omega)
      refine pr_aload_n tX1_tellEvent_29 2 rfl ?_
      refine pr_geta (j := 15) tX1_tellEvent_30 rfl rfl rfl rfl ?_
      refine pr_iload tX1_tellEvent_33 0 rfl ?_
      refine pr_aal (a := 16 + 8 * c) tX1_tellEvent_35 c rfl rfl (by omega) (by decide) rfl ?_
      refine pr_astore (L' := [(5, .inr (.inr (16 + 8 * c))), (4, .inl (nI c)), (3, .inl (nI (i - sumN E c))), (0, .inr (.inr 9)), (2, .inl (nI 1))]) tX1_tellEvent_36 (by decide) rfl ?_
      refine pr_iload_n tX1_tellEvent_38 2 rfl ?_
      refine pr_aload tX1_tellEvent_39 0 rfl ?_
      refine pr_get0 tX1_tellEvent_41 rfl (isA9 (show c < 16 by omega)).1 rfl ?_
      refine pR_topi (y := (nI (E c))) ((hE c (by omega)).1) ?_
      refine pr_ic_ge (pc' := 65) tX1_tellEvent_44 rfl (fun hc44 => ?_) (fun hc44 => ?_)
      · skip
        have hc44 : (E c) ≤ (i - sumN E c) := (nI_leI (by omega) (by omega)).mp hc44
        refine pr_iload_n tX1_tellEvent_65 2 rfl ?_
        refine pr_aload tX1_tellEvent_66 0 rfl ?_
        refine pr_get0 tX1_tellEvent_68 rfl (isA9 (show c < 16 by omega)).1 rfl ?_
        refine pR_topi (y := (nI (E c))) ((hE c (by omega)).1) ?_
        refine pr_isub (v := (nI (i - sumN E (c + 1)))) tX1_tellEvent_71 ((sub_n (by omega)).trans (by rw [show sumN E (c + 1) = sumN E c + E c from rfl, Nat.sub_sub])) ?_
        refine pr_istore_n (L' := [(3, .inl (nI (i - sumN E (c + 1)))), (5, .inr (.inr (16 + 8 * c))), (4, .inl (nI c)), (0, .inr (.inr 9)), (2, .inl (nI 1))]) tX1_tellEvent_72 (by decide) rfl ?_
        refine pr_iinc (v := (nI (c + 1))) (L' := [(4, .inl (nI (c + 1))), (3, .inl (nI (i - sumN E (c + 1)))), (5, .inr (.inr (16 + 8 * c))), (0, .inr (.inr 9)), (2, .inl (nI 1))]) tX1_tellEvent_73 2 rfl (nI_1 _) (by decide) rfl ?_
        refine pr_goto (pc' := 20) tX1_tellEvent_76 rfl ?_
        refine pR_sub (L' := [(4, .inl (nI (c + 1))), (3, .inl (nI (i - sumN E (c + 1)))), (0, .inr (.inr 9)), (2, .inl (nI 1))]) [0, 1, 3, 4] rfl ?_
        exact ih (c + 1) (by omega)
      · skip
        exact absurd ((nI_leI (by omega) (by omega)).mpr (by omega)) hc44

set_option maxRecDepth 100000 in
theorem ev_X1_tellEvent_1 (σ : pST) {n i : Nat} {E : Nat → Nat} (hn : σ.1 9 2 = nI n) (hn1 : n ≤ 16) (hE : ∀ d, d < n → σ.1 (16 + 8 * d) 6 = nI (E d) ∧ E d ≤ 12) (hi : i < 2 ^ 31) {d : Nat} (hd : d < n) (h1 : sumN E d ≤ i) (h2 : i < sumN E d + E d) : kX1_tellEvent σ [.inr (.inr 9), .inl (nI i), .inl (nI 1)] = some ((σ, some (.inr (.inl ((nI d).toInt64))))) := by
  have key : ∃ x, kX1_tellEvent σ [.inr (.inr 9), .inl (nI i), .inl (nI 1)] = some x ∧ x = (σ, some (.inr (.inl ((nI d).toInt64)))) := by
    refine pR_met (post := fun x => x = (σ, some (.inr (.inl ((nI d).toInt64))))) rfl (Nat.le_of_ble_eq_true rfl) ?_
    show pR _ _ _ _ _ _ _ _ 0 [(0, .inr (.inr 9)), (1, .inl (nI i)), (2, .inl (nI 1))] [] σ
    refine pr_iload_n tX1_tellEvent_0 1 rfl ?_
    refine pr_if_lt (pc' := 13) tX1_tellEvent_1 rfl (fun hc1 => ?_) (fun hc1 => ?_)
    · skip
      exact absurd hc1 (nI_pos (by omega))
    · skip
      refine pr_iload_n tX1_tellEvent_4 2 rfl ?_
      refine pr_if_lt (pc' := 13) tX1_tellEvent_5 rfl (fun hc5 => ?_) (fun hc5 => ?_)
      · skip
        exact absurd hc5 (by decide)
      · skip
        refine pr_iload_n tX1_tellEvent_8 2 rfl ?_
        refine pr_iconst (v := nI 1) tX1_tellEvent_9 rfl ?_
        refine pr_ic_le (pc' := 15) tX1_tellEvent_10 rfl (fun hc10 => ?_) (fun hc10 => ?_)
        · skip
          refine pr_iload_n tX1_tellEvent_15 1 rfl ?_
          refine pr_istore_n (L' := [(3, .inl (nI i)), (0, .inr (.inr 9)), (1, .inl (nI i)), (2, .inl (nI 1))]) tX1_tellEvent_16 (by decide) rfl ?_
          refine pr_iconst (v := nI 0) tX1_tellEvent_17 rfl ?_
          refine pr_istore (L' := [(4, .inl (nI 0)), (3, .inl (nI i)), (0, .inr (.inr 9)), (1, .inl (nI i)), (2, .inl (nI 1))]) tX1_tellEvent_18 (by decide) rfl ?_
          refine pR_sub (L' := [(4, .inl (nI 0)), (3, .inl (nI i)), (0, .inr (.inr 9)), (2, .inl (nI 1))]) [0, 1, 2, 4] rfl ?_
          exact lp_X1_tellEvent_1 σ hn hn1 hE hi hd h1 h2 d 0 (Nat.zero_add _)
        · skip
          exact absurd (by decide) hc10
  obtain ⟨x, h1, h2⟩ := key
  rw [h1, h2]

set_option maxRecDepth 100000 in
theorem lp_X1_tellEvent_1n (σ : pST) {n i : Nat} {E : Nat → Nat} (hn : σ.1 9 2 = nI n) (hn1 : n ≤ 16) (hE : ∀ d, d < n → σ.1 (16 + 8 * d) 6 = nI (E d) ∧ E d ≤ 12) (hi : i < 2 ^ 31) (h1 : sumN E n ≤ i) : ∀ (m c : Nat), c + m = n → pR shX tX1_tellEvent fX1_tellEvent qX1_tellEvent lX1_tellEvent 6 3 (fun x => x = (σ, some (.inr (.inl 0)))) 20 [(4, .inl (nI c)), (3, .inl (nI (i - sumN E c))), (0, .inr (.inr 9)), (2, .inl (nI 1))] [] σ := by
  intro m
  induction m with
  | zero =>
    intro c hc
    refine pr_iload tX1_tellEvent_20 0 rfl ?_
    refine pr_aload_n tX1_tellEvent_22 2 rfl ?_
    refine pr_get0 tX1_tellEvent_23 rfl rfl rfl ?_
    refine pR_topi (y := (nI n)) (by simp [pm_ui, pm_uj, upd, vp_updL, hn]) ?_
    refine pr_ic_ge (pc' := 79) tX1_tellEvent_26 rfl (fun hc26 => ?_) (fun hc26 => ?_)
    · skip
      have hc26 : n ≤ c := (nI_leI (by omega) (by omega)).mp hc26
      refine pr_lconst (v := 0) tX1_tellEvent_79 rfl ?_
      refine pr_lret tX1_tellEvent_80 rfl ?_
      rfl
    · skip
      exact absurd ((nI_leI (by omega) (by omega)).mpr (by omega)) hc26
  | succ m ih =>
    intro c hc
    refine pr_iload tX1_tellEvent_20 0 rfl ?_
    refine pr_aload_n tX1_tellEvent_22 2 rfl ?_
    refine pr_get0 tX1_tellEvent_23 rfl rfl rfl ?_
    refine pR_topi (y := (nI n)) (by simp [pm_ui, pm_uj, upd, vp_updL, hn]) ?_
    refine pr_ic_ge (pc' := 79) tX1_tellEvent_26 rfl (fun hc26 => ?_) (fun hc26 => ?_)
    · skip
      exact absurd ((nI_leI (by omega) (by omega)).mp hc26) (by omega)
    · skip
      have hc26 : ¬ n ≤ c := fun z9 => hc26 ((nI_leI (by omega) (by omega)).mpr z9)
      obtain ⟨he1, he2⟩ := hE c (by omega)
      have hs := show sumN E (c + 1) = sumN E c + E c from rfl
      have hm := sumN_mono (f := E) (show c + 1 ≤ n by omega)
      refine pr_aload_n tX1_tellEvent_29 2 rfl ?_
      refine pr_geta (j := 15) tX1_tellEvent_30 rfl rfl rfl rfl ?_
      refine pr_iload tX1_tellEvent_33 0 rfl ?_
      refine pr_aal (a := 16 + 8 * c) tX1_tellEvent_35 c rfl rfl (by omega) (by decide) rfl ?_
      refine pr_astore (L' := [(5, .inr (.inr (16 + 8 * c))), (4, .inl (nI c)), (3, .inl (nI (i - sumN E c))), (0, .inr (.inr 9)), (2, .inl (nI 1))]) tX1_tellEvent_36 (by decide) rfl ?_
      refine pr_iload_n tX1_tellEvent_38 2 rfl ?_
      refine pr_aload tX1_tellEvent_39 0 rfl ?_
      refine pr_get0 tX1_tellEvent_41 rfl (isA9 (show c < 16 by omega)).1 rfl ?_
      refine pR_topi (y := (nI (E c))) ((hE c (by omega)).1) ?_
      refine pr_ic_ge (pc' := 65) tX1_tellEvent_44 rfl (fun hc44 => ?_) (fun hc44 => ?_)
      · skip
        have hc44 : (E c) ≤ (i - sumN E c) := (nI_leI (by omega) (by omega)).mp hc44
        refine pr_iload_n tX1_tellEvent_65 2 rfl ?_
        refine pr_aload tX1_tellEvent_66 0 rfl ?_
        refine pr_get0 tX1_tellEvent_68 rfl (isA9 (show c < 16 by omega)).1 rfl ?_
        refine pR_topi (y := (nI (E c))) ((hE c (by omega)).1) ?_
        refine pr_isub (v := (nI (i - sumN E (c + 1)))) tX1_tellEvent_71 ((sub_n (by omega)).trans (by rw [show sumN E (c + 1) = sumN E c + E c from rfl, Nat.sub_sub])) ?_
        refine pr_istore_n (L' := [(3, .inl (nI (i - sumN E (c + 1)))), (5, .inr (.inr (16 + 8 * c))), (4, .inl (nI c)), (0, .inr (.inr 9)), (2, .inl (nI 1))]) tX1_tellEvent_72 (by decide) rfl ?_
        refine pr_iinc (v := (nI (c + 1))) (L' := [(4, .inl (nI (c + 1))), (3, .inl (nI (i - sumN E (c + 1)))), (5, .inr (.inr (16 + 8 * c))), (0, .inr (.inr 9)), (2, .inl (nI 1))]) tX1_tellEvent_73 2 rfl (nI_1 _) (by decide) rfl ?_
        refine pr_goto (pc' := 20) tX1_tellEvent_76 rfl ?_
        refine pR_sub (L' := [(4, .inl (nI (c + 1))), (3, .inl (nI (i - sumN E (c + 1)))), (0, .inr (.inr 9)), (2, .inl (nI 1))]) [0, 1, 3, 4] rfl ?_
        exact ih (c + 1) (by omega)
      · skip
        exact absurd ((nI_leI (by omega) (by omega)).mpr (by omega)) hc44

set_option maxRecDepth 100000 in
theorem ev_X1_tellEvent_1n (σ : pST) {n i : Nat} {E : Nat → Nat} (hn : σ.1 9 2 = nI n) (hn1 : n ≤ 16) (hE : ∀ d, d < n → σ.1 (16 + 8 * d) 6 = nI (E d) ∧ E d ≤ 12) (hi : i < 2 ^ 31) (h1 : sumN E n ≤ i) : kX1_tellEvent σ [.inr (.inr 9), .inl (nI i), .inl (nI 1)] = some ((σ, some (.inr (.inl 0)))) := by
  have key : ∃ x, kX1_tellEvent σ [.inr (.inr 9), .inl (nI i), .inl (nI 1)] = some x ∧ x = (σ, some (.inr (.inl 0))) := by
    refine pR_met (post := fun x => x = (σ, some (.inr (.inl 0)))) rfl (Nat.le_of_ble_eq_true rfl) ?_
    show pR _ _ _ _ _ _ _ _ 0 [(0, .inr (.inr 9)), (1, .inl (nI i)), (2, .inl (nI 1))] [] σ
    refine pr_iload_n tX1_tellEvent_0 1 rfl ?_
    refine pr_if_lt (pc' := 13) tX1_tellEvent_1 rfl (fun hc1 => ?_) (fun hc1 => ?_)
    · skip
      exact absurd hc1 (nI_pos (by omega))
    · skip
      refine pr_iload_n tX1_tellEvent_4 2 rfl ?_
      refine pr_if_lt (pc' := 13) tX1_tellEvent_5 rfl (fun hc5 => ?_) (fun hc5 => ?_)
      · skip
        exact absurd hc5 (by decide)
      · skip
        refine pr_iload_n tX1_tellEvent_8 2 rfl ?_
        refine pr_iconst (v := nI 1) tX1_tellEvent_9 rfl ?_
        refine pr_ic_le (pc' := 15) tX1_tellEvent_10 rfl (fun hc10 => ?_) (fun hc10 => ?_)
        · skip
          refine pr_iload_n tX1_tellEvent_15 1 rfl ?_
          refine pr_istore_n (L' := [(3, .inl (nI i)), (0, .inr (.inr 9)), (1, .inl (nI i)), (2, .inl (nI 1))]) tX1_tellEvent_16 (by decide) rfl ?_
          refine pr_iconst (v := nI 0) tX1_tellEvent_17 rfl ?_
          refine pr_istore (L' := [(4, .inl (nI 0)), (3, .inl (nI i)), (0, .inr (.inr 9)), (1, .inl (nI i)), (2, .inl (nI 1))]) tX1_tellEvent_18 (by decide) rfl ?_
          refine pR_sub (L' := [(4, .inl (nI 0)), (3, .inl (nI i)), (0, .inr (.inr 9)), (2, .inl (nI 1))]) [0, 1, 2, 4] rfl ?_
          exact lp_X1_tellEvent_1n σ hn hn1 hE hi h1 n 0 (Nat.zero_add _)
        · skip
          exact absurd (by decide) hc10
  obtain ⟨x, h1, h2⟩ := key
  rw [h1, h2]

set_option maxRecDepth 100000 in
theorem ev_X1_tellEvent_o (σ : pST) {i w : Int32} (hw : i < 0 ∨ w < 0 ∨ nI 1 < w) : kX1_tellEvent σ [.inr (.inr 9), .inl i, .inl w] = some ((σ, some (.inr (.inl 0)))) := by
  have key : ∃ x, kX1_tellEvent σ [.inr (.inr 9), .inl i, .inl w] = some x ∧ x = (σ, some (.inr (.inl 0))) := by
    refine pR_met (post := fun x => x = (σ, some (.inr (.inl 0)))) rfl (Nat.le_of_ble_eq_true rfl) ?_
    show pR _ _ _ _ _ _ _ _ 0 [(0, .inr (.inr 9)), (1, .inl i), (2, .inl w)] [] σ
    refine pr_iload_n tX1_tellEvent_0 1 rfl ?_
    refine pr_if_lt (pc' := 13) tX1_tellEvent_1 rfl (fun hc1 => ?_) (fun hc1 => ?_)
    · skip
      skip
      refine pr_lconst (v := 0) tX1_tellEvent_13 rfl ?_
      refine pr_lret tX1_tellEvent_14 rfl ?_
      rfl
    · skip
      skip
      refine pr_iload_n tX1_tellEvent_4 2 rfl ?_
      refine pr_if_lt (pc' := 13) tX1_tellEvent_5 rfl (fun hc5 => ?_) (fun hc5 => ?_)
      · skip
        skip
        refine pr_lconst (v := 0) tX1_tellEvent_13 rfl ?_
        refine pr_lret tX1_tellEvent_14 rfl ?_
        rfl
      · skip
        skip
        refine pr_iload_n tX1_tellEvent_8 2 rfl ?_
        refine pr_iconst (v := nI 1) tX1_tellEvent_9 rfl ?_
        refine pr_ic_le (pc' := 15) tX1_tellEvent_10 rfl (fun hc10 => ?_) (fun hc10 => ?_)
        · skip
          exact absurd hw (fun z => z.elim hc1 (fun z => z.elim hc5 (fun z => Int32.not_le.mpr z hc10)))
        · skip
          skip
          refine pr_lconst (v := 0) tX1_tellEvent_13 rfl ?_
          refine pr_lret tX1_tellEvent_14 rfl ?_
          rfl
  obtain ⟨x, h1, h2⟩ := key
  rw [h1, h2]
