/-! ===== the reference's run ===== -/
set_option maxRecDepth 100000 in
theorem lp_X8_run {B : BkS} {sz bd s T : Nat} {bf : Nat → Int64} (hB : BkOK B) (h1 : 1 ≤ sz) (h4 : sz ≤ 4) (hb0 : 1 ≤ bd) (hb1 : bd ≤ 100) (hT : T < 1000000) {post : pRT → Prop} (hall : ∀ i, i < T → (itS B bd (pkN s sz) (S0 bf) i).fe = false ∧ ¬ doneS B sz (itS B bd (pkN s sz) (S0 bf) i)) (hend : (itS B bd (pkN s sz) (S0 bf) T).fe = true ∨ doneS B sz (itS B bd (pkN s sz) (S0 bf) T)) : ∀ (m t : Nat) (σ : pST) (x : Int32), t + m = T → x.toBitVec.toNat = lcI s t → WM B sz bd (itS B bd (pkN s sz) (S0 bf) t) t σ → (∀ ρ, WM B sz bd (itS B bd (pkN s sz) (S0 bf) T) T ρ → pR shM tX8_run fX8_run qX8_run lX8_run 4 1 post 226 [(0, .inr (.inr 0)), (1, .inl (nI sz))] [] ρ) → pR shM tX8_run fX8_run qX8_run lX8_run 4 1 post 179 [(3, .inl x), (0, .inr (.inr 0)), (1, .inl (nI sz))] [] σ := by
  intro m
  induction m with
  | zero =>
    intro t σ x hm hx h K
    have et : t = T := by clear h K; omega
    subst et
    cases hf : (itS B bd (pkN s sz) (S0 bf) t).fe with
    | true =>
      clear hend
      refine pr_aload_n tX8_run_179 1 rfl ?_
      refine pr_get1 tX8_run_180 rfl rfl rfl ?_
      refine pR_topi (y := (nI 1)) (by rw [h.1.2.fe, hf]; rfl) ?_
      refine pr_if_ne (pc' := 226) tX8_run_183 rfl (fun hc183 => ?_) (fun hc183 => ?_)
      · skip
        refine pR_sub (L' := [(0, .inr (.inr 0)), (1, .inl (nI sz))]) [1, 2] rfl ?_
        exact K σ h
      · skip
        exact absurd (by decide) hc183
    | false =>
      have hd : doneS B sz (itS B bd (pkN s sz) (S0 bf) t) := hend.resolve_left (by rw [hf]; decide)
      refine pr_aload_n tX8_run_179 1 rfl ?_
      refine pr_get1 tX8_run_180 rfl rfl rfl ?_
      refine pR_topi (y := (nI 0)) (by rw [h.1.2.fe, hf]; rfl) ?_
      refine pr_if_ne (pc' := 226) tX8_run_183 rfl (fun hc183 => ?_) (fun hc183 => ?_)
      · skip
        exact absurd hc183 (by decide)
      · skip
        refine pr_aload_n tX8_run_186 1 rfl ?_
        refine pr_iload_n tX8_run_187 2 rfl ?_
        refine pr_callV tX8_run_188 rfl ⟨Nat.le_of_ble_eq_true rfl, Nat.le_of_ble_eq_true rfl, rfl⟩ (wm_dt hB h4 h hd) ?_
        refine pR_eq (st' := [.inl (nI 1)]) rfl rfl ?_
        refine pr_if_ne (pc' := 226) tX8_run_191 rfl (fun hc191 => ?_) (fun hc191 => ?_)
        · skip
          refine pR_sub (L' := [(0, .inr (.inr 0)), (1, .inl (nI sz))]) [1, 2] rfl ?_
          exact K σ h
        · skip
          exact absurd (by decide) hc191
  | succ m ih =>
    intro t σ x hm hx h K
    have htT : t < T := by clear h K; omega
    obtain ⟨hf, hd⟩ := hall t htT
    have hx2 : (x * 1103515245 + 12345).toBitVec.toNat = lcI s (t + 1) := by rw [lcW_n, hx]; rfl
    have hpk : nI ((x * 1103515245 + 12345).toBitVec.toNat / 65536) - nI ((x * 1103515245 + 12345).toBitVec.toNat / 65536) / nI sz * nI sz = nI (pkN s sz t) := by
      have hl := (x * 1103515245 + 12345).toBitVec.isLt
      rw [rem_n (by clear h K; omega) (by clear h K; omega), hx2]
      rfl
    obtain ⟨ρ, es, wk2⟩ := wm_step (w := pkN s sz t) hB hb1 (Nat.mod_lt _ (by clear h K; omega)) h4 (by clear h K; omega) hf h
    refine pr_aload_n tX8_run_179 1 rfl ?_
    refine pr_get1 tX8_run_180 rfl rfl rfl ?_
    refine pR_topi (y := (nI 0)) (by rw [h.1.2.fe, hf]; rfl) ?_
    refine pr_if_ne (pc' := 226) tX8_run_183 rfl (fun hc183 => ?_) (fun hc183 => ?_)
    · skip
      exact absurd hc183 (by decide)
    · skip
      refine pr_aload_n tX8_run_186 1 rfl ?_
      refine pr_iload_n tX8_run_187 2 rfl ?_
      refine pr_callV tX8_run_188 rfl ⟨Nat.le_of_ble_eq_true rfl, Nat.le_of_ble_eq_true rfl, rfl⟩ (wm_df hB h4 h hd) ?_
      refine pR_eq (st' := [.inl (nI 0)]) rfl rfl ?_
      refine pr_if_ne (pc' := 226) tX8_run_191 rfl (fun hc191 => ?_) (fun hc191 => ?_)
      · skip
        exact absurd hc191 (by decide)
      · skip
        refine pr_iload_n tX8_run_194 0 rfl ?_
        refine pr_ldc tX8_run_195 rfl ?_
        refine pr_imul (v := (x * (1103515245))) tX8_run_197 (rfl) ?_
        refine pr_sipush (v := nI 12345) tX8_run_198 rfl ?_
        refine pr_iadd (v := (x * 1103515245 + 12345)) tX8_run_201 (rfl) ?_
        refine pr_istore_n (L' := [(3, .inl (x * 1103515245 + 12345)), (0, .inr (.inr 0)), (1, .inl (nI sz))]) tX8_run_202 (by decide) rfl ?_
        refine pr_aload_n tX8_run_203 1 rfl ?_
        refine pr_dup tX8_run_204 rfl ?_
        refine pr_get0 tX8_run_205 rfl rfl rfl ?_
        refine pR_topi (y := (nI t)) (h.2.2.2.2.2.1) ?_
        refine pr_iconst (v := nI 1) tX8_run_208 rfl ?_
        refine pr_iadd (v := (nI (t + 1))) tX8_run_209 (nI_add _ _) ?_
        refine pr_put0 tX8_run_210 rfl rfl rfl ?_
        obtain ⟨σ1, eσ1⟩ : ∃ z : pST, z = (pm_ui σ.1 0 40 (nI (t + 1)), σ.2) := ⟨_, rfl⟩
        rw [← eσ1]
        refine pr_aload_n tX8_run_213 1 rfl ?_
        refine pr_iload_n tX8_run_214 0 rfl ?_
        refine pr_bipush (v := nI 16) tX8_run_215 rfl ?_
        refine pr_iushr (v := (nI ((x * 1103515245 + 12345).toBitVec.toNat / 65536))) tX8_run_217 (ush_n _) ?_
        refine pr_iload_n tX8_run_218 2 rfl ?_
        refine pr_irem (v := (nI (pkN s sz t))) tX8_run_219 (nI_ne0 (by clear h; omega) (by clear h; omega)) (hpk) ?_
        refine pr_callV tX8_run_220 rfl ⟨Nat.le_of_ble_eq_true rfl, Nat.le_of_ble_eq_true rfl, rfl⟩ (by rw [eσ1]; exact es) ?_
        refine pR_eq (st' := []) rfl rfl ?_
        refine pr_goto (pc' := 179) tX8_run_223 rfl ?_
        refine pR_sub (L' := [(3, .inl (x * 1103515245 + 12345)), (0, .inr (.inr 0)), (1, .inl (nI sz))]) [0, 1, 2] rfl ?_
        exact ih (t + 1) ρ _ (by clear h wk2; omega) hx2 wk2 K

set_option maxRecDepth 100000 in
theorem lq_X8_run {B : BkS} {sz bd s T : Nat} {bf : Nat → Int64} (hB : BkOK B) (h1 : 1 ≤ sz) (h4 : sz ≤ 4) (hb0 : 1 ≤ bd) (hb1 : bd ≤ 100) (hT : T < 1000000) {Q : pST → Prop} (hset : ∀ ρ, RM ρ B bd (finS B (itS B bd (pkN s sz) (S0 bf) T)) → ρ.1 0 39 = nI B.n → ρ.1 0 40 = nI T → ∃ τ, kX8_settle ρ [.inr (.inr 0)] = some (τ, none) ∧ τ.1 0 40 = nI T ∧ Q τ) (σ : pST) (h : WM B sz bd (itS B bd (pkN s sz) (S0 bf) T) T σ) : pR shM tX8_run fX8_run qX8_run lX8_run 4 1 (fun x => x.2 = some (.inl (nI T)) ∧ Q x.1) 226 [(0, .inr (.inr 0)), (1, .inl (nI sz))] [] σ := by
  cases hf : (itS B bd (pkN s sz) (S0 bf) T).fe with
  | false =>
    have e : finS B (itS B bd (pkN s sz) (S0 bf) T) = (itS B bd (pkN s sz) (S0 bf) T) := by unfold finS; rw [hf]; rfl
    rw [e] at hset
    obtain ⟨τ, es, ht, hq⟩ := hset σ h.1 h.2.2.2.2.2.2 h.2.2.2.2.2.1
    refine pr_aload_n tX8_run_226 0 rfl ?_
    refine pr_get1 tX8_run_227 rfl rfl rfl ?_
    refine pR_topi (y := (nI 0)) (by rw [h.1.2.fe, hf]; rfl) ?_
    refine pr_if_eq (pc' := 237) tX8_run_230 rfl (fun hc230 => ?_) (fun hc230 => ?_)
    · skip
      refine pr_aload_n tX8_run_237 0 rfl ?_
      refine pr_callV tX8_run_238 rfl ⟨Nat.le_of_ble_eq_true rfl, Nat.le_of_ble_eq_true rfl, rfl⟩ (es) ?_
      refine pR_eq (st' := []) rfl rfl ?_
      refine pr_aload_n tX8_run_241 0 rfl ?_
      refine pr_get0 tX8_run_242 rfl rfl rfl ?_
      refine pR_topi (y := (nI T)) (ht) ?_
      refine pr_iret tX8_run_245 rfl ?_
      exact ⟨rfl, hq⟩
    · skip
      exact absurd (by decide) hc230
  | true =>
    have e : finS B (itS B bd (pkN s sz) (S0 bf) T) = ordS B (itS B bd (pkN s sz) (S0 bf) T) B.n := by unfold finS; rw [hf]; rfl
    rw [e] at hset
    obtain ⟨ρ, ea, ra, fa⟩ := rm_allInOrder hB h.2.1.am h.1
    obtain ⟨τ, es, ht, hq⟩ := hset ρ ra (fa.1.trans h.2.2.2.2.2.2) (fa.2.trans h.2.2.2.2.2.1)
    refine pr_aload_n tX8_run_226 0 rfl ?_
    refine pr_get1 tX8_run_227 rfl rfl rfl ?_
    refine pR_topi (y := (nI 1)) (by rw [h.1.2.fe, hf]; rfl) ?_
    refine pr_if_eq (pc' := 237) tX8_run_230 rfl (fun hc230 => ?_) (fun hc230 => ?_)
    · skip
      exact absurd hc230 (by decide)
    · skip
      refine pr_aload_n tX8_run_233 0 rfl ?_
      refine pr_callV tX8_run_234 rfl ⟨Nat.le_of_ble_eq_true rfl, Nat.le_of_ble_eq_true rfl, rfl⟩ (ea) ?_
      refine pR_eq (st' := []) rfl rfl ?_
      refine pr_aload_n tX8_run_237 0 rfl ?_
      refine pr_callV tX8_run_238 rfl ⟨Nat.le_of_ble_eq_true rfl, Nat.le_of_ble_eq_true rfl, rfl⟩ (es) ?_
      refine pR_eq (st' := []) rfl rfl ?_
      refine pr_aload_n tX8_run_241 0 rfl ?_
      refine pr_get0 tX8_run_242 rfl rfl rfl ?_
      refine pR_topi (y := (nI T)) (ht) ?_
      refine pr_iret tX8_run_245 rfl ?_
      exact ⟨rfl, hq⟩

set_option maxRecDepth 100000 in
theorem rm_run {B : BkS} {sz bd T : Nat} {u : Int32} {bf : Nat → Int64} {Q : pST → Prop} (hB : BkOK B) (h1 : 1 ≤ sz) (h4 : sz ≤ 4) (hb0 : 1 ≤ bd) (hb1 : bd ≤ 100) (hT : T < 1000000) (hall : ∀ i, i < T → (itS B bd (pkN u.toBitVec.toNat sz) (S0 bf) i).fe = false ∧ ¬ doneS B sz (itS B bd (pkN u.toBitVec.toNat sz) (S0 bf) i)) (hend : (itS B bd (pkN u.toBitVec.toNat sz) (S0 bf) T).fe = true ∨ doneS B sz (itS B bd (pkN u.toBitVec.toNat sz) (S0 bf) T)) {σ : pST} (hbk : RMbk σ B) (hbd : σ.1 0 2 = nI bd) (hbf : ∀ k, k < 32 → σ.2 1 k = bf k) (hz : ∀ y, σ.1 22 y = 0 ∨ σ.1 22 y = 1) (hset : ∀ ρ, RM ρ B bd (finS B (itS B bd (pkN u.toBitVec.toNat sz) (S0 bf) T)) → ρ.1 0 39 = nI B.n → ρ.1 0 40 = nI T → ∃ τ, kX8_settle ρ [.inr (.inr 0)] = some (τ, none) ∧ τ.1 0 40 = nI T ∧ Q τ) : ∃ τ, kX8_run σ [.inr (.inr 0), .inl (nI sz), .inl u] = some (τ, some (.inl (nI T))) ∧ Q τ := by
  obtain ⟨r0, n0, t0⟩ := rm_open hbk hbd hbf hz
  have key : ∃ q, kX8_run σ [.inr (.inr 0), .inl (nI sz), .inl u] = some q ∧ (fun x => x.2 = some (.inl (nI T)) ∧ Q x.1) q := by
    refine pR_met (post := (fun x => x.2 = some (.inl (nI T)) ∧ Q x.1)) rfl (Nat.le_of_ble_eq_true rfl) ?_
    show pR _ _ _ _ _ _ _ _ 0 [(0, .inr (.inr 0)), (1, .inl (nI sz)), (2, .inl u)] [] σ
    refine pr_iload_n tX8_run_0 1 rfl ?_
    refine pr_iconst (v := nI 1) tX8_run_1 rfl ?_
    refine pr_ic_lt (pc' := 10) tX8_run_2 rfl (fun hc2 => ?_) (fun hc2 => ?_)
    · skip
      exact absurd ((nI_ltI (by omega) (by omega)).mp hc2) (by omega)
    · skip
      have hc2 : ¬ sz < 1 := fun z9 => hc2 ((nI_ltI (by omega) (by omega)).mpr z9)
      refine pr_iload_n tX8_run_5 1 rfl ?_
      refine pr_iconst (v := nI 4) tX8_run_6 rfl ?_
      refine pr_ic_le (pc' := 12) tX8_run_7 rfl (fun hc7 => ?_) (fun hc7 => ?_)
      · skip
        have hc7 : sz ≤ 4 := (nI_leI (by omega) (by omega)).mp hc7
        refine pr_aload_n tX8_run_12 0 rfl ?_
        refine pr_aload_n tX8_run_13 0 rfl ?_
        refine pr_get0 tX8_run_14 rfl rfl rfl ?_
        refine pr_put0 tX8_run_17 rfl rfl rfl ?_
        obtain ⟨σ1, eσ1⟩ : ∃ z : pST, z = (pm_ui σ.1 0 39 (σ.1 0 1), σ.2) := ⟨_, rfl⟩
        rw [← eσ1]
        refine pr_aload_n tX8_run_20 0 rfl ?_
        refine pr_iconst (v := nI 0) tX8_run_21 rfl ?_
        refine pr_put0 tX8_run_22 rfl rfl rfl ?_
        obtain ⟨σ2, eσ2⟩ : ∃ z : pST, z = (pm_ui σ1.1 0 40 (nI 0), σ1.2) := ⟨_, rfl⟩
        rw [← eσ2]
        refine pr_aload_n tX8_run_25 0 rfl ?_
        refine pr_iconst (v := nI 0) tX8_run_26 rfl ?_
        refine pr_put1 tX8_run_27 rfl rfl rfl (by decide) ?_
        obtain ⟨σ3, eσ3⟩ : ∃ z : pST, z = (pm_ui σ2.1 0 41 (nI 0), σ2.2) := ⟨_, rfl⟩
        rw [← eσ3]
        refine pr_aload_n tX8_run_30 0 rfl ?_
        refine pr_iconst (v := nI 0) tX8_run_31 rfl ?_
        refine pr_put0 tX8_run_32 rfl rfl rfl ?_
        obtain ⟨σ4, eσ4⟩ : ∃ z : pST, z = (pm_ui σ3.1 0 42 (nI 0), σ3.2) := ⟨_, rfl⟩
        rw [← eσ4]
        refine pr_aload_n tX8_run_35 0 rfl ?_
        refine pr_iconst (v := nI 0) tX8_run_36 rfl ?_
        refine pr_put0 tX8_run_37 rfl rfl rfl ?_
        obtain ⟨σ5, eσ5⟩ : ∃ z : pST, z = (pm_ui σ4.1 0 43 (nI 0), σ4.2) := ⟨_, rfl⟩
        rw [← eσ5]
        refine pr_aload_n tX8_run_40 0 rfl ?_
        refine pr_iconst (v := nI 0) tX8_run_41 rfl ?_
        refine pr_put0 tX8_run_42 rfl rfl rfl ?_
        obtain ⟨σ6, eσ6⟩ : ∃ z : pST, z = (pm_ui σ5.1 0 44 (nI 0), σ5.2) := ⟨_, rfl⟩
        rw [← eσ6]
        refine pr_aload_n tX8_run_45 0 rfl ?_
        refine pr_iconst (v := nI 0) tX8_run_46 rfl ?_
        refine pr_put0 tX8_run_47 rfl rfl rfl ?_
        obtain ⟨σ7, eσ7⟩ : ∃ z : pST, z = (pm_ui σ6.1 0 47 (nI 0), σ6.2) := ⟨_, rfl⟩
        rw [← eσ7]
        refine pr_aload_n tX8_run_50 0 rfl ?_
        refine pr_iconst (v := nI 0) tX8_run_51 rfl ?_
        refine pr_put0 tX8_run_52 rfl rfl rfl ?_
        obtain ⟨σ8, eσ8⟩ : ∃ z : pST, z = (pm_ui σ7.1 0 22 (nI 0), σ7.2) := ⟨_, rfl⟩
        rw [← eσ8]
        refine pr_aload_n tX8_run_55 0 rfl ?_
        refine pr_iconst (v := nI 0) tX8_run_56 rfl ?_
        refine pr_put0 tX8_run_57 rfl rfl rfl ?_
        obtain ⟨σ9, eσ9⟩ : ∃ z : pST, z = (pm_ui σ8.1 0 37 (nI 0), σ8.2) := ⟨_, rfl⟩
        rw [← eσ9]
        refine pr_aload_n tX8_run_60 0 rfl ?_
        refine pr_iconst (v := nI 0) tX8_run_61 rfl ?_
        refine pr_put0 tX8_run_62 rfl rfl rfl ?_
        obtain ⟨σ10, eσ10⟩ : ∃ z : pST, z = (pm_ui σ9.1 0 38 (nI 0), σ9.2) := ⟨_, rfl⟩
        rw [← eσ10]
        refine pr_iconst (v := nI 0) tX8_run_65 rfl ?_
        refine pr_istore_n (L' := [(3, .inl (nI 0)), (0, .inr (.inr 0)), (1, .inl (nI sz)), (2, .inl u)]) tX8_run_66 (by decide) rfl ?_
        have e9 : σ10 = (opM0 σ, σ.2) := by rw [eσ10, eσ9, eσ8, eσ7, eσ6, eσ5, eσ4, eσ3, eσ2, eσ1]; rfl
        rw [e9]
        refine pR_sub (L' := [(3, .inl (nI 0)), (0, .inr (.inr 0)), (1, .inl (nI sz)), (2, .inl u)]) [0, 1, 2, 3] rfl ?_
        have z := cq_X8_run (σ := (opM0 σ, σ.2)) (sz := sz) (u := u) (post := (fun x => x.2 = some (.inl (nI T)) ∧ Q x.1)) ?_ 512 0 (by omega)
        · rw [clM_0] at z
          exact z
        refine pr_iconst (v := nI 0) tX8_run_94 rfl ?_
        refine pr_istore_n (L' := [(3, .inl (nI 0)), (0, .inr (.inr 0)), (1, .inl (nI sz)), (2, .inl u)]) tX8_run_95 (by decide) rfl ?_
        refine pR_sub (L' := [(3, .inl (nI 0)), (0, .inr (.inr 0)), (1, .inl (nI sz)), (2, .inl u)]) [0, 1, 2, 3] rfl ?_
        have z := cz_X8_run (σ := (clM (opM0 σ) 512, σ.2)) (sz := sz) (u := u) (post := (fun x => x.2 = some (.inl (nI T)) ∧ Q x.1)) ?_ 16 0 (by omega)
        · rw [zcM_0] at z
          exact z
        refine pr_iconst (v := nI 0) tX8_run_157 rfl ?_
        refine pr_istore_n (L' := [(3, .inl (nI 0)), (0, .inr (.inr 0)), (1, .inl (nI sz)), (2, .inl u)]) tX8_run_158 (by decide) rfl ?_
        refine pR_sub (L' := [(3, .inl (nI 0)), (0, .inr (.inr 0)), (1, .inl (nI sz)), (2, .inl u)]) [0, 1, 2, 3] rfl ?_
        have z := ct_X8_run (σ := (zcM (clM (opM0 σ) 512) 16, σ.2)) (sz := sz) (u := u) (post := (fun x => x.2 = some (.inl (nI T)) ∧ Q x.1)) ?_ 4 0 (by omega)
        · have e0 : filI (zcM (clM (opM0 σ) 512) 16) 28 0 (nI 0) = zcM (clM (opM0 σ) 512) 16 := by funext x y; exact if_neg (by omega)
          rw [e0] at z
          exact z
        refine pr_iload_n tX8_run_177 2 rfl ?_
        refine pr_istore_n (L' := [(3, .inl u), (0, .inr (.inr 0)), (1, .inl (nI sz)), (2, .inl u)]) tX8_run_178 (by decide) rfl ?_
        refine pR_sub (L' := [(3, .inl u), (0, .inr (.inr 0)), (1, .inl (nI sz))]) [0, 1, 2] rfl ?_
        exact lp_X8_run hB h1 h4 hb0 hb1 hT hall hend T 0 _ u (Nat.zero_add _) rfl ⟨r0, sok_0, kok_0, fun _ => ti_0 hb0, Nat.le_refl _, t0, n0⟩ (fun ρ hρ => lq_X8_run hB h1 h4 hb0 hb1 hT hset ρ hρ)
      · skip
        exact absurd ((nI_leI (by omega) (by omega)).mpr h4) hc7
  obtain ⟨⟨τ, r⟩, k1, k2, k3⟩ := key
  have k2' : r = some (.inl (nI T)) := k2
  rw [k2'] at k1
  exact ⟨τ, k1, k3⟩

set_option maxRecDepth 100000 in
theorem ev_X8_run_out (σ : pST) {k u : Int32} (hk : k < nI 1 ∨ nI 4 < k) : kX8_run σ [.inr (.inr 0), .inl k, .inl u] = some ((σ, some (.inl (-1)))) := by
  have key : ∃ x, kX8_run σ [.inr (.inr 0), .inl k, .inl u] = some x ∧ x = (σ, some (.inl (-1))) := by
    refine pR_met (post := fun x => x = (σ, some (.inl (-1)))) rfl (Nat.le_of_ble_eq_true rfl) ?_
    show pR _ _ _ _ _ _ _ _ 0 [(0, .inr (.inr 0)), (1, .inl k), (2, .inl u)] [] σ
    refine pr_iload_n tX8_run_0 1 rfl ?_
    refine pr_iconst (v := nI 1) tX8_run_1 rfl ?_
    refine pr_ic_lt (pc' := 10) tX8_run_2 rfl (fun hc2 => ?_) (fun hc2 => ?_)
    · skip
      skip
      refine pr_iconst (v := -1) tX8_run_10 rfl ?_
      refine pr_iret tX8_run_11 rfl ?_
      rfl
    · skip
      skip
      refine pr_iload_n tX8_run_5 1 rfl ?_
      refine pr_iconst (v := nI 4) tX8_run_6 rfl ?_
      refine pr_ic_le (pc' := 12) tX8_run_7 rfl (fun hc7 => ?_) (fun hc7 => ?_)
      · skip
        exact absurd hk (fun z => z.elim hc2 (fun z => Int32.not_le.mpr z hc7))
      · skip
        skip
        refine pr_iconst (v := -1) tX8_run_10 rfl ?_
        refine pr_iret tX8_run_11 rfl ?_
        rfl
  obtain ⟨x, h1, h2⟩ := key
  rw [h1, h2]
