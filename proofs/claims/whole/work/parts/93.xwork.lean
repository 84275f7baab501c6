/-! ===== Workers.work ===== -/
theorem le_mil {t : Nat} (h : t < 1000000) : ¬ (1000000 : Int32) ≤ nI t := fun z => by
  have := (nI_leI (a := 1000000) (b := t) (by omega) (by omega)).mp z
  omega
theorem sz_pos {sz : Nat} (h1 : 1 ≤ sz) (h4 : sz ≤ 4) : ¬ nI sz ≤ (0 : Int32) := fun z => by
  have := (nI_leI (a := sz) (b := 0) (by omega) (by omega)).mp (by rw [nI_0]; exact z)
  omega
/-- all that holds after t turns -/
abbrev WK (B : BkS) (sz bd : Nat) (S : RnS) (t : Nat) (σ0 σ : pST) : Prop := RX σ B sz bd S ∧ SOK B sz S ∧ KOK B S ∧ (S.fe = false → TI B bd S) ∧ S.cn ≤ t ∧ σ.1 8 2 = nI t ∧ ∀ x, x ≤ 7 ∨ 153 ≤ x → σ.1 x = σ0.1 x ∧ σ.2 x = σ0.2 x
theorem wk_step {B : BkS} {sz bd w t : Nat} {S : RnS} {σ0 σ : pST} (hB : BkOK B) (hb1 : bd ≤ 100) (hw : w < sz) (h4 : sz ≤ 4) (ht : t < 1000000) (hf : S.fe = false) (h : WK B sz bd S t σ0 σ) : ∃ ρ, kX6_step (pm_ui σ.1 8 2 (nI (t + 1)), σ.2) [.inr (.inr 8), .inl (nI w), .inr (.inr 2)] = some (ρ, none) ∧ WK B sz bd (stepS B bd S w) (t + 1) σ0 ρ := by
  obtain ⟨r, s, k, ti, cn, tu, fr⟩ := h
  have hcn : S.cn < 2 ^ 30 := by clear r s k ti; omega
  have hnm : ∀ c, S.nm c < 100 := fun c => Nat.lt_of_lt_of_le ((ti hf).nm c) hb1
  obtain ⟨ρ, e, r2, f2⟩ := rx_step (w := w) hB (rx_t (v := nI (t + 1)) r) s k.kr hf hb1 (Nat.lt_of_lt_of_le hw h4) hcn
  obtain ⟨k2, _, c2⟩ := kok_step (bd := bd) (w := w) s k
  refine ⟨ρ, e, r2, sok_step hB s hnm, k2, fun q => (step_ok (G := 0) (ti hf) hb1 hw q).1, ?_, ?_, fun x hx => ?_⟩
  · clear r s k ti r2 k2; omega
  · rw [f2.2]
    simp [pm_ui_a]
  · obtain ⟨p1, p2⟩ := f2.1 x hx
    obtain ⟨p3, p4⟩ := fr x hx
    exact ⟨p1.trans ((ui_o (fr_ne hx (by decide) (by decide))).trans p3), p2.trans p4⟩

set_option maxRecDepth 100000 in
theorem lp_X6_work {B : BkS} {sz bd s T : Nat} {bf : Nat → Int64} {σ0 : pST} (hB : BkOK B) (h1 : 1 ≤ sz) (h4 : sz ≤ 4) (hb0 : 1 ≤ bd) (hb1 : bd ≤ 100) (hT : T < 1000000) {post : pRT → Prop} (hall : ∀ i, i < T → (itS B bd (pkN s sz) (S0 bf) i).fe = false ∧ ¬ doneS B sz (itS B bd (pkN s sz) (S0 bf) i)) (hend : (itS B bd (pkN s sz) (S0 bf) T).fe = true ∨ doneS B sz (itS B bd (pkN s sz) (S0 bf) T)) : ∀ (m t : Nat) (σ : pST) (x : Int32), t + m = T → x.toBitVec.toNat = lcI s t → WK B sz bd (itS B bd (pkN s sz) (S0 bf) t) t σ0 σ → (∀ ρ, WK B sz bd (itS B bd (pkN s sz) (S0 bf) T) T σ0 ρ → pR shX tX6_work fX6_work qX6_work lX6_work 4 0 post 68 [(0, .inr (.inr 8)), (1, .inr (.inr 2))] [] ρ) → pR shX tX6_work fX6_work qX6_work lX6_work 4 0 post 2 [(3, .inl x), (0, .inr (.inr 8)), (1, .inr (.inr 2))] [] σ := by
  intro m
  induction m with
  | zero =>
    intro t σ x hm hx h K
    have et : t = T := by clear h K; omega
    subst et
    have hs := h.2.1
    have hw := h.1.2
    cases hf : (itS B bd (pkN s sz) (S0 bf) t).fe with
    | true =>
      clear hs hw hend
      refine pr_aload_n tX6_work_2 1 rfl ?_
      refine pr_get0 tX6_work_3 rfl rfl rfl ?_
      refine pR_topi (y := (nI t)) (h.2.2.2.2.2.1) ?_
      refine pr_ldc tX6_work_6 rfl ?_
      refine pr_ic_ge (pc' := 68) tX6_work_8 rfl (fun hc8 => ?_) (fun hc8 => ?_)
      · skip
        exact absurd hc8 (le_mil (by omega))
      · skip
        skip
        refine pr_aload_n tX6_work_11 1 rfl ?_
        refine pr_get0 tX6_work_12 rfl rfl rfl ?_
        refine pR_topi (y := (nI sz)) (h.1.2.sz) ?_
        refine pr_if_le (pc' := 68) tX6_work_15 rfl (fun hc15 => ?_) (fun hc15 => ?_)
        · skip
          exact absurd hc15 (sz_pos h1 h4)
        · skip
          skip
          refine pr_aload_n tX6_work_18 1 rfl ?_
          refine pr_get1 tX6_work_19 rfl rfl rfl ?_
          refine pR_topi (y := (nI 1)) (by rw [h.1.2.fe, hf]; rfl) ?_
          refine pr_if_ne (pc' := 68) tX6_work_22 rfl (fun hc22 => ?_) (fun hc22 => ?_)
          · skip
            refine pR_sub (L' := [(0, .inr (.inr 8)), (1, .inr (.inr 2))]) [1, 2] rfl ?_
            exact K σ h
          · skip
            exact absurd (by decide) hc22
    | false =>
      have hd : doneS B sz (itS B bd (pkN s sz) (S0 bf) t) := hend.resolve_left (by rw [hf]; decide)
      refine pr_aload_n tX6_work_2 1 rfl ?_
      refine pr_get0 tX6_work_3 rfl rfl rfl ?_
      refine pR_topi (y := (nI t)) (h.2.2.2.2.2.1) ?_
      refine pr_ldc tX6_work_6 rfl ?_
      refine pr_ic_ge (pc' := 68) tX6_work_8 rfl (fun hc8 => ?_) (fun hc8 => ?_)
      · skip
        exact absurd hc8 (le_mil (by omega))
      · skip
        skip
        refine pr_aload_n tX6_work_11 1 rfl ?_
        refine pr_get0 tX6_work_12 rfl rfl rfl ?_
        refine pR_topi (y := (nI sz)) (h.1.2.sz) ?_
        refine pr_if_le (pc' := 68) tX6_work_15 rfl (fun hc15 => ?_) (fun hc15 => ?_)
        · skip
          exact absurd hc15 (sz_pos h1 h4)
        · skip
          skip
          refine pr_aload_n tX6_work_18 1 rfl ?_
          refine pr_get1 tX6_work_19 rfl rfl rfl ?_
          refine pR_topi (y := (nI 0)) (by rw [h.1.2.fe, hf]; rfl) ?_
          refine pr_if_ne (pc' := 68) tX6_work_22 rfl (fun hc22 => ?_) (fun hc22 => ?_)
          · skip
            exact absurd hc22 (by decide)
          · skip
            refine pr_aload_n tX6_work_25 1 rfl ?_
            refine pr_callV tX6_work_26 rfl ⟨Nat.le_of_ble_eq_true rfl, Nat.le_of_ble_eq_true rfl, rfl⟩ (ev_X6_isDone_t σ hw.sz h4 (fun w hw2 => ⟨hw.tk w (by omega), hs.tk w⟩) hw.rr (Nat.le_trans hs.rr hB.n) (hw.lr hf) (Nat.le_trans hs.lr hB.n) hw.n hB.n hd.1 hd.2.1 hd.2.2) ?_
            refine pR_eq (st' := [.inl (nI 1)]) rfl rfl ?_
            refine pr_if_ne (pc' := 68) tX6_work_29 rfl (fun hc29 => ?_) (fun hc29 => ?_)
            · skip
              refine pR_sub (L' := [(0, .inr (.inr 8)), (1, .inr (.inr 2))]) [1, 2] rfl ?_
              exact K σ h
            · skip
              exact absurd (by decide) hc29
  | succ m ih =>
    intro t σ x hm hx h K
    have htT : t < T := by clear h K; omega
    obtain ⟨hf, hd⟩ := hall t htT
    have hs := h.2.1
    have hw := h.1.2
    have hx2 : (x * 1103515245 + 12345).toBitVec.toNat = lcI s (t + 1) := by rw [lcW_n, hx]; rfl
    have hpk : nI ((x * 1103515245 + 12345).toBitVec.toNat / 65536) - nI ((x * 1103515245 + 12345).toBitVec.toNat / 65536) / nI sz * nI sz = nI (pkN s sz t) := by
      have hl := (x * 1103515245 + 12345).toBitVec.isLt
      rw [rem_n (by clear h K hs hw; omega) (by clear h K hs hw; omega), hx2]
      rfl
    obtain ⟨ρ, es, wk2⟩ := wk_step (w := pkN s sz t) hB hb1 (Nat.mod_lt _ (by clear h K hs hw; omega)) h4 (by clear h K hs hw; omega) hf h
    refine pr_aload_n tX6_work_2 1 rfl ?_
    refine pr_get0 tX6_work_3 rfl rfl rfl ?_
    refine pR_topi (y := (nI t)) (h.2.2.2.2.2.1) ?_
    refine pr_ldc tX6_work_6 rfl ?_
    refine pr_ic_ge (pc' := 68) tX6_work_8 rfl (fun hc8 => ?_) (fun hc8 => ?_)
    · skip
      exact absurd hc8 (le_mil (by omega))
    · skip
      skip
      refine pr_aload_n tX6_work_11 1 rfl ?_
      refine pr_get0 tX6_work_12 rfl rfl rfl ?_
      refine pR_topi (y := (nI sz)) (h.1.2.sz) ?_
      refine pr_if_le (pc' := 68) tX6_work_15 rfl (fun hc15 => ?_) (fun hc15 => ?_)
      · skip
        exact absurd hc15 (sz_pos h1 h4)
      · skip
        skip
        refine pr_aload_n tX6_work_18 1 rfl ?_
        refine pr_get1 tX6_work_19 rfl rfl rfl ?_
        refine pR_topi (y := (nI 0)) (by rw [h.1.2.fe, hf]; rfl) ?_
        refine pr_if_ne (pc' := 68) tX6_work_22 rfl (fun hc22 => ?_) (fun hc22 => ?_)
        · skip
          exact absurd hc22 (by decide)
        · skip
          refine pr_aload_n tX6_work_25 1 rfl ?_
          refine pr_callV tX6_work_26 rfl ⟨Nat.le_of_ble_eq_true rfl, Nat.le_of_ble_eq_true rfl, rfl⟩ (ev_X6_isDone_f σ hw.sz h4 (fun w hw2 => ⟨hw.tk w (by omega), hs.tk w⟩) hw.rr (Nat.le_trans hs.rr hB.n) (hw.lr hf) (Nat.le_trans hs.lr hB.n) hw.n hB.n hd) ?_
          refine pR_eq (st' := [.inl (nI 0)]) rfl rfl ?_
          refine pr_if_ne (pc' := 68) tX6_work_29 rfl (fun hc29 => ?_) (fun hc29 => ?_)
          · skip
            exact absurd hc29 (by decide)
          · skip
            refine pr_aload_n tX6_work_32 1 rfl ?_
            refine pr_dup tX6_work_33 rfl ?_
            refine pr_get0 tX6_work_34 rfl rfl rfl ?_
            refine pR_topi (y := (nI t)) (h.2.2.2.2.2.1) ?_
            refine pr_iconst (v := nI 1) tX6_work_37 rfl ?_
            refine pr_iadd (v := (nI (t + 1))) tX6_work_38 (nI_add _ _) ?_
            refine pr_put0 tX6_work_39 rfl rfl rfl ?_
            obtain ⟨σ1, eσ1⟩ : ∃ z : pST, z = (pm_ui σ.1 8 2 (nI (t + 1)), σ.2) := ⟨_, rfl⟩
            rw [← eσ1]
            refine pr_iload_n tX6_work_42 0 rfl ?_
            refine pr_ldc tX6_work_43 rfl ?_
            refine pr_imul (v := (x * (1103515245))) tX6_work_45 (rfl) ?_
            refine pr_sipush (v := nI 12345) tX6_work_46 rfl ?_
            refine pr_iadd (v := (x * 1103515245 + 12345)) tX6_work_49 (rfl) ?_
            refine pr_istore_n (L' := [(3, .inl (x * 1103515245 + 12345)), (0, .inr (.inr 8)), (1, .inr (.inr 2))]) tX6_work_50 (by decide) rfl ?_
            refine pr_aload_n tX6_work_51 1 rfl ?_
            refine pr_iload_n tX6_work_52 0 rfl ?_
            refine pr_bipush (v := nI 16) tX6_work_53 rfl ?_
            refine pr_iushr (v := (nI ((x * 1103515245 + 12345).toBitVec.toNat / 65536))) tX6_work_55 (ush_n _) ?_
            refine pr_aload_n tX6_work_56 1 rfl ?_
            refine pr_get0 tX6_work_57 rfl rfl rfl ?_
            refine pR_topi (y := (nI sz)) (by have z := hw.sz; simpa [eσ1, pm_ui_a] using z) ?_
            refine pr_irem (v := (nI (pkN s sz t))) tX6_work_60 (nI_ne0 (by omega) (by omega)) (hpk) ?_
            refine pr_aload_n tX6_work_61 2 rfl ?_
            refine pr_callV tX6_work_62 rfl ⟨Nat.le_of_ble_eq_true rfl, Nat.le_of_ble_eq_true rfl, rfl⟩ (by rw [eσ1]; exact es) ?_
            refine pR_eq (st' := []) rfl rfl ?_
            refine pr_goto (pc' := 2) tX6_work_65 rfl ?_
            refine pR_sub (L' := [(3, .inl (x * 1103515245 + 12345)), (0, .inr (.inr 8)), (1, .inr (.inr 2))]) [0, 1, 2] rfl ?_
            exact ih (t + 1) ρ _ (by omega) hx2 wk2 K

theorem wk_out {B : BkS} {sz bd t : Nat} {S : RnS} {σ0 σ : pST} (hB : BkOK B) (hf : S.fe = false) (hd : doneS B sz S) (h : WK B sz bd S t σ0 σ) : RF (grI σ.1 9 B.n (grpL S.am B.n 32), σ.2) B.n (finS B S) t := by
  obtain ⟨r, s, k, ti, cn, tu, fr⟩ := h
  have hn := hB.n
  have e : finS B S = S := by unfold finS; rw [hf]; rfl
  rw [e]
  refine rf_grp hn (fun c hc => (r.1.a c hc).s0) r.1.tb (fun c hc => ?_) r.2.n tu r.2.fe r.2.lk r.2.ud r.2.gu r.2.cn r.2.cf
  have hc16 := Nat.lt_of_lt_of_le hc hn
  have hbg : 1 ≤ S.bg c := by
    rcases s.bg c hc with ⟨_, z⟩ | z
    · exact absurd (Nat.lt_of_lt_of_le hc hd.1) (Nat.not_lt_of_le z)
    · exact z
  exact ⟨r.1.a c hc16, hbg, s.am c hc16 hbg⟩
theorem wk_fell {B : BkS} {sz bd t : Nat} {S : RnS} {σ0 σ ρ : pST} (hB : BkOK B) (hf : S.fe = true) (h : WK B sz bd S t σ0 σ) (ho : OX σ ρ 9 B S B.n) : RF (grI ρ.1 9 B.n (grpL (ordS B S B.n).am B.n 32), ρ.2) B.n (finS B S) t := by
  obtain ⟨r, s, k, ti, cn, tu, fr⟩ := h
  have hn := hB.n
  have e : finS B S = ordS B S B.n := by unfold finS; rw [hf]; rfl
  rw [e]
  obtain ⟨o1, o2, o3, o4, o5, o6, o7, o8, o9⟩ := ordS_o (B := B) (S := S) B.n
  have f8 := (ho.fr 8 (by decide)).1
  refine rf_grp hn (fun c hc => (ho.a c hc).s0) ?_ (fun c hc => ?_) ?_ ?_ ?_ ?_ ?_ ?_ ?_ (fun i h1 h2 => ?_)
  · rw [ordS_T]
    refine ox_tb hn ho fun k' j hk hj h16 => ?_
    have := (r.1.tb.st k' j hk h16).1
    rw [k.st j k' hj] at this
    exact this
  · have hc16 := Nat.lt_of_lt_of_le hc hn
    refine ⟨ho.a c hc16, ordS_bg B.n c hc, ?_⟩
    rw [ordS_am B.n c hc]
    exact ordA_ok hB hc16
  · rw [ho.b2]; exact r.2.n
  · rw [f8]; exact tu
  · rw [f8, o8]; exact r.2.fe
  · rw [f8, o5]; exact r.2.lk
  · rw [f8, o6]; exact r.2.ud
  · rw [f8, o7]; exact r.2.gu
  · rw [(ho.fr 144 (by decide)).1, o2]; exact r.2.cn
  · rw [(ho.fr 145 (by decide)).1, (ho.fr 146 (by decide)).1, o3, o4]
    exact r.2.cf i h1 (by rw [← o2]; exact h2)

set_option maxRecDepth 100000 in
theorem lq_X6_work {B : BkS} {sz bd s T : Nat} {bf : Nat → Int64} {σ0 : pST} (hB : BkOK B) (h1 : 1 ≤ sz) (h4 : sz ≤ 4) (hb0 : 1 ≤ bd) (hb1 : bd ≤ 100) (hT : T < 1000000) (hend : (itS B bd (pkN s sz) (S0 bf) T).fe = true ∨ doneS B sz (itS B bd (pkN s sz) (S0 bf) T)) (σ : pST) (h : WK B sz bd (itS B bd (pkN s sz) (S0 bf) T) T σ0 σ) : pR shX tX6_work fX6_work qX6_work lX6_work 4 0 (fun x => x.2 = none ∧ RF x.1 B.n (finS B (itS B bd (pkN s sz) (S0 bf) T)) T ∧ ∀ y, y ≤ 7 ∨ 153 ≤ y → x.1.1 y = σ0.1 y ∧ x.1.2 y = σ0.2 y) 68 [(0, .inr (.inr 8)), (1, .inr (.inr 2))] [] σ := by
  cases hf : (itS B bd (pkN s sz) (S0 bf) T).fe with
  | false =>
    have hd : doneS B sz (itS B bd (pkN s sz) (S0 bf) T) := hend.resolve_left (by rw [hf]; decide)
    have hn2 := h.1.2.n
    have hA : ∀ c, c < B.n → RXat (σ.1, σ.2) (9 + 7 + 8 * c) c ((itS B bd (pkN s sz) (S0 bf) T).am c) := fun c hc => by
      have hbg : 1 ≤ (itS B bd (pkN s sz) (S0 bf) T).bg c := by
        rcases h.2.1.bg c hc with ⟨_, z⟩ | z
        · exact absurd (Nat.lt_of_lt_of_le hc hd.1) (Nat.not_lt_of_le z)
        · exact z
      exact ((h.1.1.a c (Nat.lt_of_lt_of_le hc hB.n)).am hbg).1
    refine pr_aload_n tX6_work_68 0 rfl ?_
    refine pr_get1 tX6_work_69 rfl rfl rfl ?_
    refine pR_topi (y := (nI 0)) (by rw [h.1.2.fe, hf]; rfl) ?_
    refine pr_if_eq (pc' := 83) tX6_work_72 rfl (fun hc72 => ?_) (fun hc72 => ?_)
    · skip
      refine pr_aload_n tX6_work_83 0 rfl ?_
      refine pr_geta (j := 9) tX6_work_84 rfl rfl rfl rfl ?_
      refine pr_callV tX6_work_87 rfl ⟨Nat.le_of_ble_eq_true rfl, Nat.le_of_ble_eq_true rfl, rfl⟩ (ev_X1_formGroups (I := σ.1) (J := σ.2) (Or.inl rfl) hn2 hB.n (am := (itS B bd (pkN s sz) (S0 bf) T).am) hA) ?_
      refine pR_eq (st' := []) rfl rfl ?_
      refine pr_ret tX6_work_90 rfl ?_
      refine ⟨rfl, wk_out hB hf hd h, fun y hy => ?_⟩
      obtain ⟨p3, p4⟩ := h.2.2.2.2.2.2 y hy
      exact ⟨(grI_x hB.n (hy.elim (fun z => .inl (Nat.lt_of_le_of_lt z (by decide))) (fun z => .inr (Nat.lt_of_lt_of_le (by decide) z)))).trans p3, p4⟩
    · skip
      exact absurd (by decide) hc72
  | true =>
    clear hend
    obtain ⟨ρ, er, ho⟩ := rx_runOneByOne (σ := σ) (b := 9) (Or.inl rfl) hB h.1.2.n (ox_rx h.1)
    have hn2 : ρ.1 9 2 = nI B.n := by rw [ho.b2]; exact h.1.2.n
    have hA : ∀ c, c < B.n → RXat (ρ.1, ρ.2) (9 + 7 + 8 * c) c ((ordS B (itS B bd (pkN s sz) (S0 bf) T) B.n).am c) := fun c hc => ((ho.a c (Nat.lt_of_lt_of_le hc hB.n)).am (ordS_bg B.n c hc)).1
    refine pr_aload_n tX6_work_68 0 rfl ?_
    refine pr_get1 tX6_work_69 rfl rfl rfl ?_
    refine pR_topi (y := (nI 1)) (by rw [h.1.2.fe, hf]; rfl) ?_
    refine pr_if_eq (pc' := 83) tX6_work_72 rfl (fun hc72 => ?_) (fun hc72 => ?_)
    · skip
      exact absurd hc72 (by decide)
    · skip
      refine pr_aload_n tX6_work_75 0 rfl ?_
      refine pr_geta (j := 9) tX6_work_76 rfl rfl rfl rfl ?_
      refine pr_aload_n tX6_work_79 1 rfl ?_
      refine pr_callV tX6_work_80 rfl ⟨Nat.le_of_ble_eq_true rfl, Nat.le_of_ble_eq_true rfl, rfl⟩ (er) ?_
      refine pR_eq (st' := []) rfl rfl ?_
      refine pr_aload_n tX6_work_83 0 rfl ?_
      refine pr_geta (j := 9) tX6_work_84 rfl rfl rfl rfl ?_
      refine pr_callV tX6_work_87 rfl ⟨Nat.le_of_ble_eq_true rfl, Nat.le_of_ble_eq_true rfl, rfl⟩ (ev_X1_formGroups (I := ρ.1) (J := ρ.2) (Or.inl rfl) hn2 hB.n (am := (ordS B (itS B bd (pkN s sz) (S0 bf) T) B.n).am) hA) ?_
      refine pR_eq (st' := []) rfl rfl ?_
      refine pr_ret tX6_work_90 rfl ?_
      refine ⟨rfl, wk_fell hB hf h ho, fun y hy => ?_⟩
      obtain ⟨p3, p4⟩ := (show ρ.1 y = σ0.1 y ∧ ρ.2 y = σ0.2 y from ⟨(ho.fr y (hy.elim (fun z => .inl (Nat.lt_of_le_of_lt z (by decide))) (fun z => .inr (Nat.lt_of_lt_of_le (by decide) z)))).1.trans (h.2.2.2.2.2.2 y hy).1, (ho.fr y (hy.elim (fun z => .inl (Nat.lt_of_le_of_lt z (by decide))) (fun z => .inr (Nat.lt_of_lt_of_le (by decide) z)))).2.trans (h.2.2.2.2.2.2 y hy).2⟩)
      exact ⟨(grI_x hB.n (hy.elim (fun z => .inl (Nat.lt_of_le_of_lt z (by decide))) (fun z => .inr (Nat.lt_of_lt_of_le (by decide) z)))).trans p3, p4⟩

set_option maxRecDepth 100000 in
theorem rx_work {B : BkS} {sz bd s T : Nat} {bf : Nat → Int64} {σ0 : pST} (hB : BkOK B) (h1 : 1 ≤ sz) (h4 : sz ≤ 4) (hb0 : 1 ≤ bd) (hb1 : bd ≤ 100) (hT : T < 1000000) (hall : ∀ i, i < T → (itS B bd (pkN s sz) (S0 bf) i).fe = false ∧ ¬ doneS B sz (itS B bd (pkN s sz) (S0 bf) i)) (hend : (itS B bd (pkN s sz) (S0 bf) T).fe = true ∨ doneS B sz (itS B bd (pkN s sz) (S0 bf) T)) {σ : pST} {x : Int32} (hx : x.toBitVec.toNat = s) (h : WK B sz bd (S0 bf) 0 σ0 σ) : ∃ ρ, kX6_work σ [.inr (.inr 8), .inr (.inr 2), .inl x] = some (ρ, none) ∧ RF ρ B.n (finS B (itS B bd (pkN s sz) (S0 bf) T)) T ∧ ∀ y, y ≤ 7 ∨ 153 ≤ y → ρ.1 y = σ0.1 y ∧ ρ.2 y = σ0.2 y := by
  have key : ∃ q, kX6_work σ [.inr (.inr 8), .inr (.inr 2), .inl x] = some q ∧ (fun x => x.2 = none ∧ RF x.1 B.n (finS B (itS B bd (pkN s sz) (S0 bf) T)) T ∧ ∀ y, y ≤ 7 ∨ 153 ≤ y → x.1.1 y = σ0.1 y ∧ x.1.2 y = σ0.2 y) q := by
    refine pR_met (post := (fun x => x.2 = none ∧ RF x.1 B.n (finS B (itS B bd (pkN s sz) (S0 bf) T)) T ∧ ∀ y, y ≤ 7 ∨ 153 ≤ y → x.1.1 y = σ0.1 y ∧ x.1.2 y = σ0.2 y)) rfl (Nat.le_of_ble_eq_true rfl) ?_
    show pR _ _ _ _ _ _ _ _ 0 [(0, .inr (.inr 8)), (1, .inr (.inr 2)), (2, .inl x)] [] σ
    refine pr_iload_n tX6_work_0 2 rfl ?_
    refine pr_istore_n (L' := [(3, .inl x), (0, .inr (.inr 8)), (1, .inr (.inr 2)), (2, .inl x)]) tX6_work_1 (by decide) rfl ?_
    refine pR_sub (L' := [(3, .inl x), (0, .inr (.inr 8)), (1, .inr (.inr 2))]) [0, 1, 2] rfl ?_
    exact lp_X6_work hB h1 h4 hb0 hb1 hT hall hend T 0 σ x (Nat.zero_add _) hx h (fun ρ hρ => lq_X6_work hB h1 h4 hb0 hb1 hT hend ρ hρ)
  obtain ⟨⟨ρ, r⟩, k1, k2, k3⟩ := key
  have k2' : r = none := k2
  rw [k2'] at k1
  exact ⟨ρ, k1, k3⟩
