/-! ===== Bench.open, Bench.runOneByOne ===== -/
theorem isTb {b : Nat} (hb : b = 9 ∨ b = 153) : isT (b + 1) := by
  rcases hb with h | h
  · subst h; exact ⟨rfl, rfl, rfl, rfl, rfl⟩
  · subst h; exact ⟨rfl, rfl, rfl, rfl, rfl⟩
def opnA (I : Nat → Nat → Int32) (b i : Nat) : Nat → Nat → Int32 := fun x y => if b + 7 ≤ x ∧ x < b + 7 + 8 * i ∧ (x - (b + 7)) % 8 = 0 ∧ (y = 1 ∨ y = 2) then 0 else I x y
theorem opnA_0 {I : Nat → Nat → Int32} {b : Nat} : opnA I b 0 = I := by
  funext x y
  unfold opnA
  rw [if_neg (by omega)]
theorem opnA_s {I : Nat → Nat → Int32} {b i : Nat} : pm_ui (pm_ui (opnA I b i) (b + 7 + 8 * i) 1 0) (b + 7 + 8 * i) 2 0 = opnA I b (i + 1) := by
  funext x y
  simp only [pm_ui_a, opnA]
  by_cases h1 : x = b + 7 + 8 * i ∧ y = 2
  · rw [if_pos h1, if_pos (by omega)]
  · rw [if_neg h1]
    by_cases h2 : x = b + 7 + 8 * i ∧ y = 1
    · rw [if_pos h2, if_pos (by omega)]
    · rw [if_neg h2]
      by_cases h3 : b + 7 ≤ x ∧ x < b + 7 + 8 * i ∧ (x - (b + 7)) % 8 = 0 ∧ (y = 1 ∨ y = 2)
      · rw [if_pos h3, if_pos (by omega)]
      · rw [if_neg h3, if_neg (by omega)]

set_option maxRecDepth 100000 in
theorem lp_X1_open (τ : pST) {b : Nat} (hb : b = 9 ∨ b = 153) : ∀ (m i : Nat), i + m = 16 → pR shX tX1_open fX1_open qX1_open lX1_open 4 0 (fun x => x = ((opnA τ.1 b 16, τ.2), none)) 18 [(3, .inl (nI i)), (0, .inr (.inr b)), (1, .inr (.inr 2)), (2, .inr (.inr 1))] [] (opnA τ.1 b i, τ.2) := by
  intro m
  induction m with
  | zero =>
    intro i hi
    refine pr_iload_n tX1_open_18 0 rfl ?_
    refine pr_bipush (v := nI 16) tX1_open_19 rfl ?_
    refine pr_ic_ge (pc' := 39) tX1_open_21 rfl (fun hc21 => ?_) (fun hc21 => ?_)
    · skip
      have hc21 : 16 ≤ i := (nI_leI (by omega) (by omega)).mp hc21
      refine pr_ret tX1_open_39 rfl ?_
      rw [show i = 16 by omega]
    · skip
      exact absurd ((nI_leI (by omega) (by omega)).mpr (by omega)) hc21
  | succ m ih =>
    intro i hi
    refine pr_iload_n tX1_open_18 0 rfl ?_
    refine pr_bipush (v := nI 16) tX1_open_19 rfl ?_
    refine pr_ic_ge (pc' := 39) tX1_open_21 rfl (fun hc21 => ?_) (fun hc21 => ?_)
    · skip
      exact absurd ((nI_leI (by omega) (by omega)).mp hc21) (by omega)
    · skip
      have hc21 : ¬ 16 ≤ i := fun z9 => hc21 ((nI_leI (by omega) (by omega)).mpr z9)
      refine pr_aload_n tX1_open_24 1 rfl ?_
      refine pr_geta (j := b + 6) tX1_open_25 rfl (shB hb).1 rfl rfl ?_
      refine pr_iload_n tX1_open_28 0 rfl ?_
      refine pr_aal (a := b + 7 + 8 * i) tX1_open_29 i (shB hb).2.2.2.2.2.2 rfl (by omega) (by decide) rfl ?_
      refine pr_callV tX1_open_30 rfl ⟨Nat.le_of_ble_eq_true rfl, Nat.le_of_ble_eq_true rfl, rfl⟩ (ev_X0_open (opnA τ.1 b i, τ.2) (shA hb (show i < 16 by omega))) ?_
      refine pR_eq (st' := []) rfl rfl ?_
      refine pr_iinc (v := (nI (i + 1))) (L' := [(3, .inl (nI (i + 1))), (0, .inr (.inr b)), (1, .inr (.inr 2)), (2, .inr (.inr 1))]) tX1_open_33 0 rfl (nI_1 _) (by decide) rfl ?_
      refine pr_goto (pc' := 18) tX1_open_36 rfl ?_
      refine pR_sub (L' := [(3, .inl (nI (i + 1))), (0, .inr (.inr b)), (1, .inr (.inr 2)), (2, .inr (.inr 1))]) [0, 1, 2, 3] rfl ?_
      have e9 : ((pm_ui (pm_ui ((opnA τ.1 b i, τ.2)).1 (b + 7 + 8 * i) 1 0) (b + 7 + 8 * i) 2 0, ((opnA τ.1 b i, τ.2)).2) : pST) = (opnA τ.1 b (i + 1), τ.2) := Prod.ext opnA_s rfl
      rw [e9]
      exact ih (i + 1) (by omega)

def opnB (σ : pST) (b : Nat) : pST := (opnA (opnT (pm_ui σ.1 b 2 (σ.1 2 0), σ.2) (b + 1)).1 b 16, (opnT (pm_ui σ.1 b 2 (σ.1 2 0), σ.2) (b + 1)).2)
set_option maxRecDepth 100000 in
theorem ev_X1_open (σ : pST) {b : Nat} (hb : b = 9 ∨ b = 153) : kX1_open σ [.inr (.inr b), .inr (.inr 2), .inr (.inr 1)] = some ((opnB σ b, none)) := by
  have key : ∃ x, kX1_open σ [.inr (.inr b), .inr (.inr 2), .inr (.inr 1)] = some x ∧ x = (opnB σ b, none) := by
    refine pR_met (post := fun x => x = (opnB σ b, none)) (shB hb).1 (Nat.le_of_ble_eq_true rfl) ?_
    show pR _ _ _ _ _ _ _ _ 0 [(0, .inr (.inr b)), (1, .inr (.inr 2)), (2, .inr (.inr 1))] [] σ
    refine pr_aload_n tX1_open_0 0 rfl ?_
    refine pr_aload_n tX1_open_1 1 rfl ?_
    refine pr_get0 tX1_open_2 rfl rfl rfl ?_
    refine pr_put0 tX1_open_5 rfl (shB hb).1 rfl ?_
    obtain ⟨σ1, eσ1⟩ : ∃ z : pST, z = (pm_ui σ.1 b 2 (σ.1 2 0), σ.2) := ⟨_, rfl⟩
    rw [← eσ1]
    refine pr_aload_n tX1_open_8 0 rfl ?_
    refine pr_geta (j := b + 1) tX1_open_9 rfl (shB hb).1 rfl rfl ?_
    refine pr_aload_n tX1_open_12 2 rfl ?_
    refine pr_callV tX1_open_13 rfl ⟨Nat.le_of_ble_eq_true rfl, Nat.le_of_ble_eq_true rfl, rfl⟩ (by rw [eσ1]; exact ev_X5_open _ (isTb hb)) ?_
    refine pR_eq (st' := []) rfl rfl ?_
    refine pr_iconst (v := nI 0) tX1_open_16 rfl ?_
    refine pr_istore_n (L' := [(3, .inl (nI 0)), (0, .inr (.inr b)), (1, .inr (.inr 2)), (2, .inr (.inr 1))]) tX1_open_17 (by decide) rfl ?_
    refine pR_sub (L' := [(3, .inl (nI 0)), (0, .inr (.inr b)), (1, .inr (.inr 2)), (2, .inr (.inr 1))]) [0, 1, 2, 3] rfl ?_
    have z := lp_X1_open (opnT (pm_ui σ.1 b 2 (σ.1 2 0), σ.2) (b + 1)) hb 16 0 (by omega)
    rw [opnA_0] at z
    exact z
  obtain ⟨x, h1, h2⟩ := key
  rw [h1, h2]

set_option maxRecDepth 100000 in
theorem in_X1_runOneByOne {b : Nat} (hb : b = 9 ∨ b = 153) {B : BkS} {T : TbS} {c : Nat} (hB : BkOK B) (hc : c < B.n) (hT : nph T c) {post : pRT → Prop} : ∀ (m i : Nat) (σ : pST) (A : AtS) (da dd : Nat), i + m = 12 → RXbk σ B → RXtb σ (b + 1) T c → RXat σ (b + 7 + 8 * c) c A → AtOK c A → σ.1 (b + 7 + 8 * c) 2 = nI da → σ.1 (b + 7 + 8 * c) 3 = nI dd → (∀ (j : Nat) (ρ : pST), RXat ρ (b + 7 + 8 * c) c (runA B T c m A).1 → FrO σ ρ (b + 7 + 8 * c) → ρ.1 (b + 7 + 8 * c) 2 = nI (da + (runA B T c m A).2) → ρ.1 (b + 7 + 8 * c) 3 = nI (dd + (runA B T c m A).2) → pR shX tX1_runOneByOne fX1_runOneByOne qX1_runOneByOne lX1_runOneByOne 5 0 post 55 [(4, .inl (nI j)), (3, .inr (.inr (b + 7 + 8 * c))), (2, .inl (nI c)), (0, .inr (.inr b)), (1, .inr (.inr 2))] [] ρ) → pR shX tX1_runOneByOne fX1_runOneByOne qX1_runOneByOne lX1_runOneByOne 5 0 post 24 [(4, .inl (nI i)), (3, .inr (.inr (b + 7 + 8 * c))), (2, .inl (nI c)), (0, .inr (.inr b)), (1, .inr (.inr 2))] [] σ := by
  have hn := hB.n
  have hc16 : c < 16 := by omega
  have ha : isA (b + 7 + 8 * c) := shA hb hc16
  intro m
  induction m with
  | zero =>
    intro i σ A da dd hi hbk htb hA hk h2 h3 K
    refine pr_iload tX1_runOneByOne_24 0 rfl ?_
    refine pr_bipush (v := nI 12) tX1_runOneByOne_26 rfl ?_
    refine pr_ic_ge (pc' := 55) tX1_runOneByOne_28 rfl (fun hc28 => ?_) (fun hc28 => ?_)
    · skip
      have hc28 : 12 ≤ i := (nI_leI (by omega) (by omega)).mp hc28
      refine pR_sub (L' := [(4, .inl (nI i)), (3, .inr (.inr (b + 7 + 8 * c))), (2, .inl (nI c)), (0, .inr (.inr b)), (1, .inr (.inr 2))]) [0, 1, 2, 3, 4] rfl ?_
      exact K i σ hA FrO.refl h2 h3
    · skip
      exact absurd ((nI_leI (by omega) (by omega)).mpr (by omega)) hc28
  | succ m ih =>
    intro i σ A da dd hi hbk htb hA hk h2 h3 K
    by_cases ho : overA B c A
    · have eo := rx_isOver ha hB hbk hA hk hc
      rw [if_pos ho] at eo
      have eR : runA B T c (m + 1) A = (A, 0) := by unfold runA; rw [if_pos ho]
      rw [eR] at K
      refine pr_iload tX1_runOneByOne_24 0 rfl ?_
      refine pr_bipush (v := nI 12) tX1_runOneByOne_26 rfl ?_
      refine pr_ic_ge (pc' := 55) tX1_runOneByOne_28 rfl (fun hc28 => ?_) (fun hc28 => ?_)
      · skip
        exact absurd ((nI_leI (by omega) (by omega)).mp hc28) (by omega)
      · skip
        have hc28 : ¬ 12 ≤ i := fun z9 => hc28 ((nI_leI (by omega) (by omega)).mpr z9)
        refine pr_aload_n tX1_runOneByOne_31 1 rfl ?_
        refine pr_aload_n tX1_runOneByOne_32 4 rfl ?_
        refine pr_callV tX1_runOneByOne_33 rfl ⟨Nat.le_of_ble_eq_true rfl, Nat.le_of_ble_eq_true rfl, rfl⟩ (eo) ?_
        refine pR_eq (st' := [.inl (nI 1)]) rfl rfl ?_
        refine pr_if_ne (pc' := 55) tX1_runOneByOne_36 rfl (fun hc36 => ?_) (fun hc36 => ?_)
        · skip
          refine pR_sub (L' := [(4, .inl (nI i)), (3, .inr (.inr (b + 7 + 8 * c))), (2, .inl (nI c)), (0, .inr (.inr b)), (1, .inr (.inr 2))]) [0, 1, 2, 3, 4] rfl ?_
          exact K i σ hA FrO.refl h2 h3
        · skip
          exact absurd (by decide) hc36
    · have eo := rx_isOver ha hB hbk hA hk hc
      rw [if_neg ho] at eo
      have eR : runA B T c (m + 1) A = ((runA B T c m (doA B T c A).2).1, (runA B T c m (doA B T c A).2).2 + 1) := by
        have : runA B T c (m + 1) A = if overA B c A then (A, 0) else ((runA B T c m (doA B T c A).2).1, (runA B T c m (doA B T c A).2).2 + 1) := rfl
        rw [this, if_neg ho]
      rw [eR] at K
      obtain ⟨ρ, e1, r1, f1, d2, d3⟩ := rx_doNext ha (isTb hb) (by omega) hB hbk htb hA hk hc ho
      rw [doA_n hT] at e1 d2 d3
      have z := ih (i + 1) ρ (doA B T c A).2 (da + 1) (dd + 1) (by omega) (bk_c hbk fun x z1 z2 => f1.o x (by clear hA hbk htb; omega)) (tb_c htb fun x z1 z2 => f1.o x (by clear hA hbk htb; omega)) r1 (doA_ok hB hc16 hk ho) (by rw [d2, if_pos rfl, h2, nI_1]) (by rw [d3, if_pos rfl, h3, nI_1]) (fun j τ q1 q2 q3 q4 => K j τ q1 (f1.trans q2) (by rw [q3]; congr 1; clear hA hbk htb; omega) (by rw [q4]; congr 1; clear hA hbk htb; omega))
      refine pr_iload tX1_runOneByOne_24 0 rfl ?_
      refine pr_bipush (v := nI 12) tX1_runOneByOne_26 rfl ?_
      refine pr_ic_ge (pc' := 55) tX1_runOneByOne_28 rfl (fun hc28 => ?_) (fun hc28 => ?_)
      · skip
        exact absurd ((nI_leI (by omega) (by omega)).mp hc28) (by omega)
      · skip
        have hc28 : ¬ 12 ≤ i := fun z9 => hc28 ((nI_leI (by omega) (by omega)).mpr z9)
        refine pr_aload_n tX1_runOneByOne_31 1 rfl ?_
        refine pr_aload_n tX1_runOneByOne_32 4 rfl ?_
        refine pr_callV tX1_runOneByOne_33 rfl ⟨Nat.le_of_ble_eq_true rfl, Nat.le_of_ble_eq_true rfl, rfl⟩ (eo) ?_
        refine pR_eq (st' := [.inl (nI 0)]) rfl rfl ?_
        refine pr_if_ne (pc' := 55) tX1_runOneByOne_36 rfl (fun hc36 => ?_) (fun hc36 => ?_)
        · skip
          exact absurd hc36 (by decide)
        · skip
          refine pr_aload_n tX1_runOneByOne_39 1 rfl ?_
          refine pr_aload_n tX1_runOneByOne_40 4 rfl ?_
          refine pr_aload_n tX1_runOneByOne_41 3 rfl ?_
          refine pr_geta (j := b + 1) tX1_runOneByOne_42 rfl (shB hb).1 rfl rfl ?_
          refine pr_callV tX1_runOneByOne_45 rfl ⟨Nat.le_of_ble_eq_true rfl, Nat.le_of_ble_eq_true rfl, rfl⟩ (e1) ?_
          refine pR_eq (st' := [.inl (-1)]) rfl rfl ?_
          refine pr_pop tX1_runOneByOne_48 rfl ?_
          refine pr_iinc (v := (nI (i + 1))) (L' := [(4, .inl (nI (i + 1))), (3, .inr (.inr (b + 7 + 8 * c))), (2, .inl (nI c)), (0, .inr (.inr b)), (1, .inr (.inr 2))]) tX1_runOneByOne_49 0 rfl (nI_1 _) (by decide) rfl ?_
          refine pr_goto (pc' := 24) tX1_runOneByOne_52 rfl ?_
          refine pR_sub (L' := [(4, .inl (nI (i + 1))), (3, .inr (.inr (b + 7 + 8 * c))), (2, .inl (nI c)), (0, .inr (.inr b)), (1, .inr (.inr 2))]) [0, 1, 2, 3, 4] rfl ?_
          exact z

theorem ordS_da {B : BkS} {S : RnS} {c : Nat} : ∀ m d, m ≤ d → (ordS B S m).da d = S.da d
  | 0, d, _ => rfl
  | m + 1, d, h => by
    show fup (ordS B S m).da m _ d = S.da d
    rw [fup_n (by omega)]
    exact ordS_da (c := c) m d (by omega)

set_option maxRecDepth 100000 in
theorem lp_X1_runOneByOne {b : Nat} (hb : b = 9 ∨ b = 153) {B : BkS} {S : RnS} {σ0 : pST} (hB : BkOK B) (hn : σ0.1 b 2 = nI B.n) : ∀ (m i : Nat) (σ : pST), i + m = B.n → OX σ0 σ b B S i → pR shX tX1_runOneByOne fX1_runOneByOne qX1_runOneByOne lX1_runOneByOne 5 0 (fun x => x.2 = none ∧ OX σ0 x.1 b B S B.n) 2 [(2, .inl (nI i)), (0, .inr (.inr b)), (1, .inr (.inr 2))] [] σ := by
  have hn1 := hB.n
  intro m
  induction m with
  | zero =>
    intro i σ hi h
    refine pr_iload_n tX1_runOneByOne_2 0 rfl ?_
    refine pr_aload_n tX1_runOneByOne_3 1 rfl ?_
    refine pr_get0 tX1_runOneByOne_4 rfl (shB hb).1 rfl ?_
    refine pR_topi (y := (nI B.n)) (by rw [h.b2]; exact hn) ?_
    refine pr_ic_ge (pc' := 71) tX1_runOneByOne_7 rfl (fun hc7 => ?_) (fun hc7 => ?_)
    · skip
      have hc7 : B.n ≤ i := (nI_leI (by omega) (by omega)).mp hc7
      refine pr_ret tX1_runOneByOne_71 rfl ?_
      exact ⟨rfl, by rw [show B.n = i by omega]; exact h⟩
    · skip
      exact absurd ((nI_leI (by omega) (by omega)).mpr (by omega)) hc7
  | succ m ih =>
    intro i σ hi h
    have hi16 : i < 16 := by clear h; omega
    obtain ⟨σ1, e, r1, r2, r3, r4, r5, r6⟩ := rx_begin (σ := σ) (shA hb hi16) (h.a i hi16).s0
    have hda : σ.1 (b + 7 + 8 * i) 2 = nI (S.da i) := by
      rw [(h.a i hi16).da, ordS_da (c := 0) i i (Nat.le_refl _)]
    refine pr_iload_n tX1_runOneByOne_2 0 rfl ?_
    refine pr_aload_n tX1_runOneByOne_3 1 rfl ?_
    refine pr_get0 tX1_runOneByOne_4 rfl (shB hb).1 rfl ?_
    refine pR_topi (y := (nI B.n)) (by rw [h.b2]; exact hn) ?_
    refine pr_ic_ge (pc' := 71) tX1_runOneByOne_7 rfl (fun hc7 => ?_) (fun hc7 => ?_)
    · skip
      exact absurd ((nI_leI (by omega) (by omega)).mp hc7) (by omega)
    · skip
      have hc7 : ¬ B.n ≤ i := fun z9 => hc7 ((nI_leI (by omega) (by omega)).mpr z9)
      refine pr_aload_n tX1_runOneByOne_10 1 rfl ?_
      refine pr_geta (j := b + 6) tX1_runOneByOne_11 rfl (shB hb).1 rfl rfl ?_
      refine pr_iload_n tX1_runOneByOne_14 0 rfl ?_
      refine pr_aal (a := b + 7 + 8 * i) tX1_runOneByOne_15 i (shB hb).2.2.2.2.2.2 rfl (by omega) (by decide) rfl ?_
      refine pr_astore_n (L' := [(3, .inr (.inr (b + 7 + 8 * i))), (2, .inl (nI i)), (0, .inr (.inr b)), (1, .inr (.inr 2))]) tX1_runOneByOne_16 (by decide) rfl ?_
      refine pr_aload_n tX1_runOneByOne_17 0 rfl ?_
      refine pr_callV tX1_runOneByOne_18 rfl ⟨Nat.le_of_ble_eq_true rfl, Nat.le_of_ble_eq_true rfl, rfl⟩ (e) ?_
      refine pR_eq (st' := []) rfl rfl ?_
      refine pr_iconst (v := nI 0) tX1_runOneByOne_21 rfl ?_
      refine pr_istore (L' := [(4, .inl (nI 0)), (3, .inr (.inr (b + 7 + 8 * i))), (2, .inl (nI i)), (0, .inr (.inr b)), (1, .inr (.inr 2))]) tX1_runOneByOne_22 (by decide) rfl ?_
      refine pR_sub (L' := [(4, .inl (nI 0)), (3, .inr (.inr (b + 7 + 8 * i))), (2, .inl (nI i)), (0, .inr (.inr b)), (1, .inr (.inr 2))]) [0, 1, 2, 3, 4] rfl ?_
      refine in_X1_runOneByOne hb hB (show i < B.n by omega) ord_nph 12 0 σ1 at0 (S.da i) 0 rfl (bk_c h.bk fun x z1 z2 => r2 x (by clear h r1; omega)) (tb_c h.tb fun x z1 z2 => r2 x (by clear h r1; omega)) r1 (at0_ok i) (by rw [r5]; exact hda) (by rw [r6]; rfl) ?_
      intro j σ2 q1 q2 q3 q4
      have h9 := ox_call (σ1 := σ1) (by omega) hi16 h r2 r3 r5 q2 q1 q3 (by rw [q4, Nat.zero_add]; rfl)
      have ep := ev_X5_publish σ2 (a := b + 7 + 8 * i) (t := b + 1) (c := i) (shA hb hi16) (isTb hb) (Or.inr (by clear h q1 r1 h9; omega)) hi16 q1.s0 (nI 0)
      refine pr_aload_n tX1_runOneByOne_55 3 rfl ?_
      refine pr_geta (j := b + 1) tX1_runOneByOne_56 rfl (shB hb).1 rfl rfl ?_
      refine pr_aload_n tX1_runOneByOne_59 1 rfl ?_
      refine pr_iconst (v := nI 0) tX1_runOneByOne_60 rfl ?_
      refine pr_callV tX1_runOneByOne_61 rfl ⟨Nat.le_of_ble_eq_true rfl, Nat.le_of_ble_eq_true rfl, rfl⟩ (ep) ?_
      refine pR_eq (st' := [.inl (frN σ2 (b + 7 + 8 * i) (b + 1) i 32)]) rfl rfl ?_
      refine pr_pop tX1_runOneByOne_64 rfl ?_
      refine pr_iinc (v := (nI (i + 1))) (L' := [(2, .inl (nI (i + 1))), (4, .inl (nI j)), (3, .inr (.inr (b + 7 + 8 * i))), (0, .inr (.inr b)), (1, .inr (.inr 2))]) tX1_runOneByOne_65 2 rfl (nI_1 _) (by decide) rfl ?_
      refine pr_goto (pc' := 2) tX1_runOneByOne_68 rfl ?_
      refine pR_sub (L' := [(2, .inl (nI (i + 1))), (0, .inr (.inr b)), (1, .inr (.inr 2))]) [0, 3, 4] rfl ?_
      exact ih (i + 1) (pubS σ2 (b + 7 + 8 * i) (b + 1) i (nI 0) 32) (by clear h q1 r1 h9; omega) h9

theorem rx_runOneByOne {σ : pST} {b : Nat} (hb : b = 9 ∨ b = 153) {B : BkS} {S : RnS} (hB : BkOK B) (hn : σ.1 b 2 = nI B.n) (h : OX σ σ b B S 0) : ∃ ρ, kX1_runOneByOne σ [.inr (.inr b), .inr (.inr 2)] = some (ρ, none) ∧ OX σ ρ b B S B.n := by
  have key : ∃ x, kX1_runOneByOne σ [.inr (.inr b), .inr (.inr 2)] = some x ∧ x.2 = none ∧ OX σ x.1 b B S B.n := by
    refine pR_met (post := fun x => x.2 = none ∧ OX σ x.1 b B S B.n) (shB hb).1 (Nat.le_of_ble_eq_true rfl) ?_
    show pR _ _ _ _ _ _ _ _ 0 [(0, .inr (.inr b)), (1, .inr (.inr 2))] [] σ
    refine pr_iconst (v := nI 0) tX1_runOneByOne_0 rfl ?_
    refine pr_istore_n (L' := [(2, .inl (nI 0)), (0, .inr (.inr b)), (1, .inr (.inr 2))]) tX1_runOneByOne_1 (by decide) rfl ?_
    refine pR_sub (L' := [(2, .inl (nI 0)), (0, .inr (.inr b)), (1, .inr (.inr 2))]) [0, 1, 2] rfl ?_
    exact lp_X1_runOneByOne hb hB hn B.n 0 σ (Nat.zero_add _) h
  obtain ⟨⟨ρ, r⟩, h1, h2, h3⟩ := key
  have h2' : r = none := h2
  rw [h2'] at h1
  exact ⟨ρ, h1, h3⟩
