/-! ===== settle, as a whole ===== -/
/-- what the reference keeps of a run for later calls -/
abbrev RMF (σ : pST) (n : Nat) (S : RnS) (t : Nat) : Prop :=
  (σ.1 0 39 = nI n ∧ σ.1 0 40 = nI t ∧ σ.1 0 41 = cond S.fe 1 0 ∧ σ.1 0 42 = nI S.lk ∧ σ.1 0 43 = nI S.ud ∧ σ.1 0 44 = nI S.gu ∧ σ.1 0 22 = nI S.al ∧ σ.1 0 47 = nI S.cn ∧ σ.1 0 45 = nI (cntL (grpL S.am n 32) n))
  ∧ (∀ i, i < 200 → i < S.cn → σ.1 32 i = nI (S.cc i) ∧ σ.1 33 i = oI (S.co i))
  ∧ (∀ d, d < n → σ.1 36 d = cond (S.am d).fl 1 0 ∧ σ.1 37 d = nI (S.am d).kn ∧ σ.1 38 d = nI (wcA (S.am d) 32) ∧ σ.1 39 d = nI (S.dd d) ∧ σ.1 40 d = nI (S.bg d) ∧ σ.1 31 d = nI (grpL S.am n 32 d))
  ∧ σ.1 0 50 = nI (sumN (fun d => enE (S.am d)) n)
  ∧ (∀ d e, d < n → e < enE (S.am d) → σ.2 34 (sumN (fun d => enE (S.am d)) d + e) = (S.am d).ev e ∧ σ.1 35 (sumN (fun d => enE (S.am d)) d + e) = nI d)
theorem sa_0 {σ : pST} {B : BkS} {bd : Nat} {S : RnS} (hr : RM σ B bd S) : SA σ (pm_ui σ.1 0 50 (nI 0), σ.2) S 0 := by
  refine ⟨fun x y hn => ⟨?_, rfl⟩, fun k hk => hr.1.tb.bf k hk, ?_, fun d e hd => absurd hd (Nat.not_lt_zero _), fun d hd => absurd hd (Nat.not_lt_zero _)⟩
  · show pm_ui σ.1 0 50 (nI 0) x y = _
    rw [pm_ui_a, if_neg (fun z => hn (.inr (.inl z)))]
  · show pm_ui σ.1 0 50 (nI 0) 0 50 = _
    rw [pm_ui_a, if_pos ⟨rfl, rfl⟩]
    rfl
theorem set_out {σ0 ρ : pST} {B : BkS} {bd n t : Nat} {S : RnS} {P : Nat → Nat} (hr : RM σ0 B bd S) (h39 : σ0.1 0 39 = nI n) (h40 : σ0.1 0 40 = nI t) (h : SA σ0 ρ S n) (hP : ∀ d, d < n → P d = grpL S.am n 32 d) : RMF (grM (pm_ui ρ.1 0 45 (nI (cntL (grpL S.am n 32) n))) n P, ρ.2) n S t ∧ (∀ x, 2 ≤ x → x ≤ 30 → grM (pm_ui ρ.1 0 45 (nI (cntL (grpL S.am n 32) n))) n P x = σ0.1 x ∧ ρ.2 x = σ0.2 x) ∧ (∀ y, y ≠ 45 → y ≠ 50 → grM (pm_ui ρ.1 0 45 (nI (cntL (grpL S.am n 32) n))) n P 0 y = σ0.1 0 y) ∧ (∀ k, k < 32 → ρ.2 1 k = svT S.T k (wbT S.T k n)) := by
  obtain ⟨f, lf, eo, ev, of⟩ := h
  have z0 : ∀ y, y ≠ 45 → y ≠ 50 → grM (pm_ui ρ.1 0 45 (nI (cntL (grpL S.am n 32) n))) n P 0 y = σ0.1 0 y := fun y h1 h2 => by
    rw [grM_z, pm_ui_a, if_neg (fun z => h1 z.2)]
    exact (f 0 y (fun q => by rcases q with q | q | q | q; · exact absurd q (by decide)
                              · exact h2 q.2
                              · exact absurd q (by decide)
                              · exact absurd q.1 (by decide))).1
  have zx : ∀ x, x ≠ 31 → x ≠ 0 → grM (pm_ui ρ.1 0 45 (nI (cntL (grpL S.am n 32) n))) n P x = ρ.1 x := fun x h1 h2 => by rw [grM_o h1, ui_o h2]
  have w := hr.2
  clear hr
  refine ⟨⟨⟨(z0 39 (by decide) (by decide)).trans h39, (z0 40 (by decide) (by decide)).trans h40, (z0 41 (by decide) (by decide)).trans w.fe, (z0 42 (by decide) (by decide)).trans w.lk, (z0 43 (by decide) (by decide)).trans w.ud, (z0 44 (by decide) (by decide)).trans w.gu, (z0 22 (by decide) (by decide)).trans w.al, (z0 47 (by decide) (by decide)).trans w.cn, ?_⟩, fun i h1 h2 => ?_, fun d hd => ?_, ?_, fun d e hd he => ?_⟩, fun x h1 h2 => ⟨?_, ?_⟩, z0, lf⟩
  · show grM (pm_ui ρ.1 0 45 (nI (cntL (grpL S.am n 32) n))) n P 0 45 = _
    rw [grM_z, pm_ui_a, if_pos ⟨rfl, rfl⟩]
  · show grM (pm_ui ρ.1 0 45 (nI (cntL (grpL S.am n 32) n))) n P 32 i = _ ∧ grM (pm_ui ρ.1 0 45 (nI (cntL (grpL S.am n 32) n))) n P 33 i = _
    rw [zx 32 (by decide) (by decide), zx 33 (by decide) (by decide), (f 32 i (fun q => by omega)).1, (f 33 i (fun q => by omega)).1]
    exact w.cf i h1 h2
  · show grM (pm_ui ρ.1 0 45 (nI (cntL (grpL S.am n 32) n))) n P 36 d = _ ∧ grM (pm_ui ρ.1 0 45 (nI (cntL (grpL S.am n 32) n))) n P 37 d = _ ∧ grM (pm_ui ρ.1 0 45 (nI (cntL (grpL S.am n 32) n))) n P 38 d = _ ∧ grM (pm_ui ρ.1 0 45 (nI (cntL (grpL S.am n 32) n))) n P 39 d = _ ∧ grM (pm_ui ρ.1 0 45 (nI (cntL (grpL S.am n 32) n))) n P 40 d = _ ∧ grM (pm_ui ρ.1 0 45 (nI (cntL (grpL S.am n 32) n))) n P 31 d = _
    rw [zx 36 (by decide) (by decide), zx 37 (by decide) (by decide), zx 38 (by decide) (by decide), zx 39 (by decide) (by decide), zx 40 (by decide) (by decide), grM_r hd, hP d hd]
    obtain ⟨o1, o2, o3, o4, o5, _⟩ := of d hd
    exact ⟨o1, o2, o3, o4, o5, rfl⟩
  · show grM (pm_ui ρ.1 0 45 (nI (cntL (grpL S.am n 32) n))) n P 0 50 = _
    rw [grM_z, pm_ui_a, if_neg (fun z => absurd z.2 (by decide))]
    exact eo
  · show _ ∧ grM (pm_ui ρ.1 0 45 (nI (cntL (grpL S.am n 32) n))) n P 35 _ = _
    rw [zx 35 (by decide) (by decide)]
    exact ev d e hd he
  · rw [zx x (le_ne h2 (by decide)) (ge_ne h1 (by decide))]
    funext y
    exact (f x y (untS_c h1 h2)).1
  · funext y
    exact (f x y (untS_c h1 h2)).2

set_option maxRecDepth 100000 in
theorem rm_settle {σ : pST} {B : BkS} {bd n t : Nat} {S : RnS} (hn : n ≤ 16) (hr : RM σ B bd S) (hbg : ∀ d, d < n → 1 ≤ S.bg d) (hok : ∀ d, d < n → AtOK d (S.am d)) (h39 : σ.1 0 39 = nI n) (h40 : σ.1 0 40 = nI t) : ∃ τ, kX8_settle σ [.inr (.inr 0)] = some (τ, none) ∧ RMF τ n S t ∧ (∀ z, 2 ≤ z → z ≤ 30 → τ.1 z = σ.1 z ∧ τ.2 z = σ.2 z) ∧ (∀ y, y ≠ 45 → y ≠ 50 → τ.1 0 y = σ.1 0 y) ∧ (∀ k, k < 32 → τ.2 1 k = svT S.T k (wbT S.T k n)) := by
  have key : ∃ q, kX8_settle σ [.inr (.inr 0)] = some q ∧ (fun x => x.2 = none ∧ RMF x.1 n S t ∧ (∀ z, 2 ≤ z → z ≤ 30 → x.1.1 z = σ.1 z ∧ x.1.2 z = σ.2 z) ∧ (∀ y, y ≠ 45 → y ≠ 50 → x.1.1 0 y = σ.1 0 y) ∧ (∀ k, k < 32 → x.1.2 1 k = svT S.T k (wbT S.T k n))) q := by
    refine pR_met (post := (fun x => x.2 = none ∧ RMF x.1 n S t ∧ (∀ z, 2 ≤ z → z ≤ 30 → x.1.1 z = σ.1 z ∧ x.1.2 z = σ.2 z) ∧ (∀ y, y ≠ 45 → y ≠ 50 → x.1.1 0 y = σ.1 0 y) ∧ (∀ k, k < 32 → x.1.2 1 k = svT S.T k (wbT S.T k n)))) rfl (Nat.le_of_ble_eq_true rfl) ?_
    show pR _ _ _ _ _ _ _ _ 0 [(0, .inr (.inr 0))] [] σ
    refine pr_aload_n tX8_settle_0 0 rfl ?_
    refine pr_iconst (v := nI 0) tX8_settle_1 rfl ?_
    refine pr_put0 tX8_settle_2 rfl rfl rfl ?_
    obtain ⟨σ1, eσ1⟩ : ∃ z : pST, z = (pm_ui σ.1 0 50 (nI 0), σ.2) := ⟨_, rfl⟩
    rw [← eσ1]
    refine pr_iconst (v := nI 0) tX8_settle_5 rfl ?_
    refine pr_istore_n (L' := [(1, .inl (nI 0)), (0, .inr (.inr 0))]) tX8_settle_6 (by decide) rfl ?_
    have e9 : σ1 = (pm_ui σ.1 0 50 (nI 0), σ.2) := by rw [eσ1]
    rw [e9]
    refine pR_sub (L' := [(1, .inl (nI 0)), (0, .inr (.inr 0))]) [0, 1] rfl ?_
    refine lp_X8_settle (σ0 := σ) hn hr hbg hok h39 (fun ρ hS => ?_) n 0 _ (Nat.zero_add _) (sa_0 hr)
    have r39 : ρ.1 0 39 = nI n := by rw [(hS.fr 0 39 (by decide)).1]; exact h39
    refine pr_iconst (v := nI 0) tX8_settle_242 rfl ?_
    refine pr_istore_n (L' := [(1, .inl (nI 0)), (0, .inr (.inr 0))]) tX8_settle_243 (by decide) rfl ?_
    refine pR_sub (L' := [(1, .inl (nI 0)), (0, .inr (.inr 0))]) [0, 1] rfl ?_
    have z := lk_X8_settle (I := ρ.1) (J := ρ.2) (am := S.am) (post := (fun x => x.2 = none ∧ RMF x.1 n S t ∧ (∀ z, 2 ≤ z → z ≤ 30 → x.1.1 z = σ.1 z ∧ x.1.2 z = σ.2 z) ∧ (∀ y, y ≠ 45 → y ≠ 50 → x.1.1 0 y = σ.1 0 y) ∧ (∀ k, k < 32 → x.1.2 1 k = svT S.T k (wbT S.T k n)))) hn r39 (fun d hd => sa_at hS ((hr.1.a d (Nat.lt_of_lt_of_le hd hn)).am (hbg d hd)).1) hok (fun P hF => ?_) 32 0 (fun d => d) (by omega) fr_id
    · rw [grM_id (fun d hd => (hS.of d hd).2.2.2.2.2)] at z
      exact z
    refine pr_aload_n tX8_settle_340 0 rfl ?_
    refine pr_iconst (v := nI 0) tX8_settle_341 rfl ?_
    refine pr_put0 tX8_settle_342 rfl rfl rfl ?_
    obtain ⟨σ1, eσ1⟩ : ∃ z : pST, z = (pm_ui (grM ρ.1 n P, ρ.2).1 0 45 (nI 0), (grM ρ.1 n P, ρ.2).2) := ⟨_, rfl⟩
    rw [← eσ1]
    refine pr_iconst (v := nI 0) tX8_settle_345 rfl ?_
    refine pr_istore_n (L' := [(1, .inl (nI 0)), (0, .inr (.inr 0))]) tX8_settle_346 (by decide) rfl ?_
    have e9 : σ1 = (grM (pm_ui ρ.1 0 45 (nI (cntL (grpL S.am n 32) 0))) n P, ρ.2) := by rw [eσ1]; exact Prod.ext grM_u rfl
    rw [e9]
    refine pR_sub (L' := [(1, .inl (nI 0)), (0, .inr (.inr 0))]) [0, 1] rfl ?_
    refine lc_X8_settle (I := ρ.1) (J := ρ.2) (P := P) (L := (grpL S.am n 32)) hn r39 hF ?_ n 0 (Nat.zero_add _)
    refine pr_iconst (v := nI 0) tX8_settle_385 rfl ?_
    refine pr_istore_n (L' := [(1, .inl (nI 0)), (0, .inr (.inr 0))]) tX8_settle_386 (by decide) rfl ?_
    refine pR_sub (L' := [(1, .inl (nI 0)), (0, .inr (.inr 0))]) [0, 1] rfl ?_
    refine lf_X8_settle (I := (pm_ui ρ.1 0 45 (nI (cntL (grpL S.am n 32) n)))) (J := ρ.2) (L := (grpL S.am n 32)) hn (by simp [pm_ui_a, r39]) (fun P' hP' => ⟨rfl, set_out hr h39 h40 hS hP'⟩) n 0 P (Nat.zero_add _) hF (fun d hd => absurd hd (Nat.not_lt_zero _))
  obtain ⟨⟨τ, r⟩, k1, k2, k3⟩ := key
  have k2' : r = none := k2
  rw [k2'] at k1
  exact ⟨τ, k1, k3⟩
