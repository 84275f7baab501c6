/-! ===== settle: the row of calls ===== -/
theorem en_le {S : RnS} {n : Nat} (h : ∀ d, d < n → AtOK d (S.am d)) : ∀ c, c ≤ n → sumN (fun d => enE (S.am d)) c ≤ 12 * c
  | 0, _ => Nat.le_refl _
  | c + 1, hc => by
    have ih := en_le h c (by omega)
    have q := (h c (by omega)).e12
    have q2 : enE (S.am c) ≤ (S.am c).en := by unfold enE; cases (S.am c).fl <;> simp
    show sumN (fun d => enE (S.am d)) c + enE (S.am c) ≤ _
    clear h
    omega

set_option maxRecDepth 100000 in
theorem lp_X8_settle {B : BkS} {bd n : Nat} {S : RnS} {σ0 : pST} (hn : n ≤ 16) (hr : RM σ0 B bd S) (hbg : ∀ d, d < n → 1 ≤ S.bg d) (hok : ∀ d, d < n → AtOK d (S.am d)) (h39 : σ0.1 0 39 = nI n) {post : pRT → Prop} (K : (∀ ρ, SA σ0 ρ S n → pR shM tX8_settle fX8_settle qX8_settle lX8_settle 6 0 post 242 [(0, .inr (.inr 0))] [] ρ)) : ∀ (m i : Nat) (σ : pST), i + m = n → SA σ0 σ S i → pR shM tX8_settle fX8_settle qX8_settle lX8_settle 6 0 post 7 [(1, .inl (nI i)), (0, .inr (.inr 0))] [] σ := by
  intro m
  induction m with
  | zero =>
    intro i σ hi h
    refine pr_iload_n tX8_settle_7 0 rfl ?_
    refine pr_aload_n tX8_settle_8 1 rfl ?_
    refine pr_get0 tX8_settle_9 rfl rfl rfl ?_
    refine pR_topi (y := (nI n)) (by rw [(h.fr 0 39 (by decide)).1]; exact h39) ?_
    refine pr_ic_ge (pc' := 242) tX8_settle_12 rfl (fun hc12 => ?_) (fun hc12 => ?_)
    · skip
      have hc12 : n ≤ i := (nI_leI (by omega) (by omega)).mp hc12
      refine pR_sub (L' := [(0, .inr (.inr 0))]) [1] rfl ?_
      exact K σ (by rw [show n = i by clear h hr; omega]; exact h)
    · skip
      exact absurd ((nI_leI (by omega) (by omega)).mpr (by omega)) hc12
  | succ m ih =>
    intro i σ hi h
    have hin : i < n := by clear h hr; omega
    have hi16 : i < 16 := by clear h hr; omega
    have hA := sa_at h ((hr.1.a i hi16).am (hbg i hin)).1
    have hb9 : σ.1 9 i = 0 ∨ σ.1 9 i = 1 := by
      rw [hA.fl]
      cases (S.am i).fl with
      | false => exact .inl rfl
      | true => exact .inr rfl
    have ho : (sumN (fun d => enE (S.am d)) i) + 12 ≤ 192 := by
      have q := en_le hok i (by clear h hr hA; omega)
      clear h hr hA
      omega
    refine pr_iload_n tX8_settle_7 0 rfl ?_
    refine pr_aload_n tX8_settle_8 1 rfl ?_
    refine pr_get0 tX8_settle_9 rfl rfl rfl ?_
    refine pR_topi (y := (nI n)) (by rw [(h.fr 0 39 (by decide)).1]; exact h39) ?_
    refine pr_ic_ge (pc' := 242) tX8_settle_12 rfl (fun hc12 => ?_) (fun hc12 => ?_)
    · skip
      exact absurd ((nI_leI (by omega) (by omega)).mp hc12) (by omega)
    · skip
      have hc12 : ¬ n ≤ i := fun z9 => hc12 ((nI_leI (by omega) (by omega)).mpr z9)
      refine pr_iconst (v := nI 0) tX8_settle_15 rfl ?_
      refine pr_istore_n (L' := [(2, .inl (nI 0)), (1, .inl (nI i)), (0, .inr (.inr 0))]) tX8_settle_16 (by decide) rfl ?_
      refine pR_sub (L' := [(2, .inl (nI 0)), (1, .inl (nI i)), (0, .inr (.inr 0))]) [0, 1, 2] rfl ?_
      have z := sl_X8_settle (σ := σ) (c := i) (post := post) hi16 ?_ 32 0 (by omega)
      · rw [sjJ_0] at z
        exact z
      refine pr_iconst (v := nI 0) tX8_settle_60 rfl ?_
      refine pr_istore_n (L' := [(2, .inl (nI 0)), (1, .inl (nI i)), (0, .inr (.inr 0))]) tX8_settle_61 (by decide) rfl ?_
      refine pR_sub (L' := [(2, .inl (nI 0)), (1, .inl (nI i)), (0, .inr (.inr 0))]) [0, 1, 2] rfl ?_
      have z := se_X8_settle (σ := (σ.1, sjJ σ i 32)) (A := S.am i) (c := i) (o := (sumN (fun d => enE (S.am d)) i)) (post := post) hi16 hA.en (hok i hin).e12 hA.fl ho ?_ (enE (S.am i)) 0 (Nat.zero_add _)
      · rw [ev_0 (σ := (σ.1, sjJ σ i 32)) (c := i) h.eo] at z
        exact z
      refine pr_iconst (v := nI 0) tX8_settle_127 rfl ?_
      refine pr_istore_n (L' := [(2, .inl (nI 0)), (1, .inl (nI i)), (0, .inr (.inr 0))]) tX8_settle_128 (by decide) rfl ?_
      refine pr_iconst (v := nI 0) tX8_settle_129 rfl ?_
      refine pr_istore_n (L' := [(3, .inl (nI 0)), (2, .inl (nI 0)), (1, .inl (nI i)), (0, .inr (.inr 0))]) tX8_settle_130 (by decide) rfl ?_
      refine pR_sub (L' := [(3, .inl (nI 0)), (2, .inl (nI 0)), (1, .inl (nI i)), (0, .inr (.inr 0))]) [0, 1, 2, 3] rfl ?_
      refine sw_X8_settle (σ := σ) (ρ := (evI (σ.1, sjJ σ i 32) i (sumN (fun d => enE (S.am d)) i) (enE (S.am i)), evJ (σ.1, sjJ σ i 32) i (sumN (fun d => enE (S.am d)) i) (enE (S.am i)))) (c := i) hi16 (fun y => evI_o (σ := (σ.1, sjJ σ i 32)) (c := i) (o := (sumN (fun d => enE (S.am d)) i)) (m := enE (S.am i)) (x := 10) (by decide) (fun z => absurd z.1 (by decide))) (evI_o (σ := (σ.1, sjJ σ i 32)) (c := i) (o := (sumN (fun d => enE (S.am d)) i)) (m := enE (S.am i)) (x := 9) (by decide) (fun z => absurd z.1 (by decide))) ?_ 32 0 (by omega)
      refine pr_aload_n tX8_settle_174 2 rfl ?_
      refine pr_geta (j := 36) tX8_settle_175 rfl rfl rfl rfl ?_
      refine pr_iload_n tX8_settle_178 1 rfl ?_
      refine pr_aload_n tX8_settle_179 2 rfl ?_
      refine pr_geta (j := 9) tX8_settle_180 rfl rfl rfl rfl ?_
      refine pr_iload_n tX8_settle_183 1 rfl ?_
      refine pr_zal tX8_settle_184 i rfl rfl (by omega) (by decide) ?_
      refine pR_topi (y := (σ.1 9 i)) (by simp [pm_ui_a, evI_o]) ?_
      refine pr_zas tX8_settle_185 i rfl rfl (by omega) (by decide) hb9 ?_
      obtain ⟨σ1, eσ1⟩ : ∃ z : pST, z = (pm_ui (evI (σ.1, sjJ σ i 32) i (sumN (fun d => enE (S.am d)) i) (enE (S.am i)), evJ (σ.1, sjJ σ i 32) i (sumN (fun d => enE (S.am d)) i) (enE (S.am i))).1 36 i (σ.1 9 i), (evI (σ.1, sjJ σ i 32) i (sumN (fun d => enE (S.am d)) i) (enE (S.am i)), evJ (σ.1, sjJ σ i 32) i (sumN (fun d => enE (S.am d)) i) (enE (S.am i))).2) := ⟨_, rfl⟩
      rw [← eσ1]
      refine pr_aload_n tX8_settle_186 2 rfl ?_
      refine pr_geta (j := 37) tX8_settle_187 rfl rfl rfl rfl ?_
      refine pr_iload_n tX8_settle_190 1 rfl ?_
      refine pr_aload_n tX8_settle_191 2 rfl ?_
      refine pr_geta (j := 12) tX8_settle_192 rfl rfl rfl rfl ?_
      refine pr_iload_n tX8_settle_195 1 rfl ?_
      refine pr_ial tX8_settle_196 i rfl rfl (by omega) (by decide) ?_
      refine pR_topi (y := (σ.1 12 i)) (by simp [eσ1, pm_ui_a, evI_o]) ?_
      refine pr_ias tX8_settle_197 i rfl rfl (by omega) (by decide) ?_
      obtain ⟨σ2, eσ2⟩ : ∃ z : pST, z = (pm_ui σ1.1 37 i (σ.1 12 i), σ1.2) := ⟨_, rfl⟩
      rw [← eσ2]
      refine pr_aload_n tX8_settle_198 2 rfl ?_
      refine pr_geta (j := 38) tX8_settle_199 rfl rfl rfl rfl ?_
      refine pr_iload_n tX8_settle_202 1 rfl ?_
      refine pr_iload_n tX8_settle_203 0 rfl ?_
      refine pr_ias tX8_settle_204 i rfl rfl (by omega) (by decide) ?_
      obtain ⟨σ3, eσ3⟩ : ∃ z : pST, z = (pm_ui σ2.1 38 i (nI (wcM σ i 32)), σ2.2) := ⟨_, rfl⟩
      rw [← eσ3]
      refine pr_aload_n tX8_settle_205 2 rfl ?_
      refine pr_geta (j := 39) tX8_settle_206 rfl rfl rfl rfl ?_
      refine pr_iload_n tX8_settle_209 1 rfl ?_
      refine pr_aload_n tX8_settle_210 2 rfl ?_
      refine pr_geta (j := 20) tX8_settle_211 rfl rfl rfl rfl ?_
      refine pr_iload_n tX8_settle_214 1 rfl ?_
      refine pr_ial tX8_settle_215 i rfl rfl (by omega) (by decide) ?_
      refine pR_topi (y := (σ.1 20 i)) (by simp [eσ1, eσ2, eσ3, pm_ui_a, evI_o]) ?_
      refine pr_ias tX8_settle_216 i rfl rfl (by omega) (by decide) ?_
      obtain ⟨σ4, eσ4⟩ : ∃ z : pST, z = (pm_ui σ3.1 39 i (σ.1 20 i), σ3.2) := ⟨_, rfl⟩
      rw [← eσ4]
      refine pr_aload_n tX8_settle_217 2 rfl ?_
      refine pr_geta (j := 40) tX8_settle_218 rfl rfl rfl rfl ?_
      refine pr_iload_n tX8_settle_221 1 rfl ?_
      refine pr_aload_n tX8_settle_222 2 rfl ?_
      refine pr_geta (j := 19) tX8_settle_223 rfl rfl rfl rfl ?_
      refine pr_iload_n tX8_settle_226 1 rfl ?_
      refine pr_ial tX8_settle_227 i rfl rfl (by omega) (by decide) ?_
      refine pR_topi (y := (σ.1 19 i)) (by simp [eσ1, eσ2, eσ3, eσ4, pm_ui_a, evI_o]) ?_
      refine pr_ias tX8_settle_228 i rfl rfl (by omega) (by decide) ?_
      obtain ⟨σ5, eσ5⟩ : ∃ z : pST, z = (pm_ui σ4.1 40 i (σ.1 19 i), σ4.2) := ⟨_, rfl⟩
      rw [← eσ5]
      refine pr_aload_n tX8_settle_229 2 rfl ?_
      refine pr_geta (j := 31) tX8_settle_230 rfl rfl rfl rfl ?_
      refine pr_iload_n tX8_settle_233 1 rfl ?_
      refine pr_iload_n tX8_settle_234 1 rfl ?_
      refine pr_ias tX8_settle_235 i rfl rfl (by omega) (by decide) ?_
      obtain ⟨σ6, eσ6⟩ : ∃ z : pST, z = (pm_ui σ5.1 31 i (nI i), σ5.2) := ⟨_, rfl⟩
      rw [← eσ6]
      refine pr_iinc (v := (nI (i + 1))) (L' := [(1, .inl (nI (i + 1))), (2, .inl (nI (wcM σ i 32))), (0, .inr (.inr 0))]) tX8_settle_236 1 rfl (nI_1 _) (by decide) rfl ?_
      refine pr_goto (pc' := 7) tX8_settle_239 rfl ?_
      have e9 : σ6 = st1 σ i (sumN (fun d => enE (S.am d)) i) (enE (S.am i)) := by rw [eσ6, eσ5, eσ4, eσ3, eσ2, eσ1]; rfl
      rw [e9]
      refine pR_sub (L' := [(1, .inl (nI (i + 1))), (0, .inr (.inr 0))]) [0, 2] rfl ?_
      exact ih (i + 1) _ (by clear h hr hA; omega) (sa_step hi16 hr (hbg i hin) h)
