/-! ===== the table: who wrote below, by option; firstChanged, open, publish; countWritten ===== -/
theorem pm_ui_a {I : Nat → Nat → Int32} {a k x y : Nat} {v : Int32} : pm_ui I a k v x y = if x = a ∧ y = k then v else I x y := by
  unfold pm_ui
  by_cases hx : x = a
  · subst hx
    by_cases hy : y = k
    · subst hy; simp [upd]
    · simp [upd, hy]
  · simp [hx]
theorem pm_uj_a {I : Nat → Nat → Int64} {a k x y : Nat} {v : Int64} : pm_uj I a k v x y = if x = a ∧ y = k then v else I x y := by
  unfold pm_uj
  by_cases hx : x = a
  · subst hx
    by_cases hy : y = k
    · subst hy; simp [vp_updL]
    · simp [vp_updL, hy]
  · simp [hx]
def wbO (st : Nat → Int32) (k : Nat) : Nat → Option Nat
  | 0 => none
  | c + 1 => if st (k * 16 + c) = 0 then wbO st k c else some c
def oI : Option Nat → Int32
  | none => -1
  | some j => nI j
theorem wbN_o {st : Nat → Int32} {k : Nat} : ∀ c, wbN st k c = oI (wbO st k c)
  | 0 => rfl
  | c + 1 => by
    unfold wbN wbO
    split
    · exact wbN_o c
    · rfl
theorem wbO_l {st : Nat → Int32} {k j : Nat} : ∀ {c}, wbO st k c = some j → j < c
  | 0, h => by cases h
  | c + 1, h => by
    unfold wbO at h
    split at h
    · exact Nat.lt_succ_of_lt (wbO_l h)
    · cases h; exact Nat.lt_succ_self _
def snO (num : Nat → Int32) (k : Nat) : Option Nat → Int32
  | none => -1
  | some j => num (k * 16 + j)
def spO (st : Nat → Int32) (k : Nat) : Option Nat → Int32
  | none => 0
  | some j => if st (k * 16 + j) = nI 2 then 1 else 0
def svO (bf : Nat → Int64) (vl : Nat → Int64) (k : Nat) : Option Nat → Int64
  | none => bf k
  | some j => vl (k * 16 + j)
theorem ev_X5_writerBelow_o (σ : pST) {t k c : Nat} (ht : isT t) (hk : k < 32) (hc : c ≤ 16) : kX5_writerBelow σ [.inr (.inr t), .inl (nI k), .inl (nI c)] = some ((σ, some (.inl (oI (wbO (σ.1 (t + 2)) k c))))) := (ev_X5_writerBelow σ ht hk hc).trans (by rw [wbN_o])
theorem ev_X5_isPerhaps_o (σ : pST) {t k : Nat} (ht : isT t) (hk : k < 32) : ∀ (o : Option Nat), (∀ j, o = some j → j < 16) → kX5_isPerhaps σ [.inr (.inr t), .inl (nI k), .inl (oI o)] = some ((σ, some (.inl (spO (σ.1 (t + 2)) k o))))
  | none, _ => ev_X5_isPerhaps_n σ ht (nI k)
  | some j, h => ev_X5_isPerhaps_s σ ht hk (h j rfl)
theorem ev_X5_numberOf_o (σ : pST) {t k : Nat} (ht : isT t) (hk : k < 32) : ∀ (o : Option Nat), (∀ j, o = some j → j < 16) → kX5_numberOf σ [.inr (.inr t), .inl (nI k), .inl (oI o)] = some ((σ, some (.inl (snO (σ.1 (t + 3)) k o))))
  | none, _ => ev_X5_numberOf_n σ ht (nI k)
  | some j, h => ev_X5_numberOf_s σ ht hk (h j rfl)
theorem ev_X5_valueOf_o (σ : pST) {t k : Nat} (ht : isT t) (hk : k < 32) : ∀ (o : Option Nat), (∀ j, o = some j → j < 16) → kX5_valueOf σ [.inr (.inr t), .inl (nI k), .inl (oI o)] = some ((σ, some (.inr (.inl (svO (σ.2 (t + 1)) (σ.2 (t + 4)) k o)))))
  | none, _ => ev_X5_valueOf_n σ ht hk
  | some j, h => ev_X5_valueOf_s σ ht hk (h j rfl)
theorem ev_X5_valueAfter_o (σ : pST) {t k : Nat} (ht : isT t) (hk : k < 32) : kX5_valueAfter σ [.inr (.inr t), .inl (nI k)] = some ((σ, some (.inr (.inl (svO (σ.2 (t + 1)) (σ.2 (t + 4)) k (wbO (σ.1 (t + 2)) k 16)))))) := by
  have h1 := wbN_o (st := σ.1 (t + 2)) (k := k) 16
  cases h : wbO (σ.1 (t + 2)) k 16 with
  | none => exact ev_X5_valueAfter_n σ ht hk (by rw [h1, h]; rfl)
  | some j => exact ev_X5_valueAfter_s σ ht hk (wbO_l h) (by rw [h1, h]; rfl)
/-- the i-th one kept is seen otherwise -/
abbrev chP (σ : pST) (a t c : Nat) (lf : Nat → Nat) (i : Nat) : Prop := ¬ oI (wbO (σ.1 (t + 2)) (lf i) c) = σ.1 (a + 6) i ∨ ¬ spO (σ.1 (t + 2)) (lf i) (wbO (σ.1 (t + 2)) (lf i) c) = 0 ∨ ¬ snO (σ.1 (t + 3)) (lf i) (wbO (σ.1 (t + 2)) (lf i) c) = σ.1 (a + 7) i
def fcN (P : Nat → Prop) [DecidablePred P] (f : Nat → Int32) : Nat → Nat → Int32
  | 0, _ => -1
  | m + 1, i => if P i then f i else fcN P f m (i + 1)
theorem fcN_t {P : Nat → Prop} [DecidablePred P] {f : Nat → Int32} {m i : Nat} (h : P i) : fcN P f (m + 1) i = f i := if_pos h
theorem fcN_f {P : Nat → Prop} [DecidablePred P] {f : Nat → Int32} {m i : Nat} (h : ¬ P i) : fcN P f (m + 1) i = fcN P f m (i + 1) := if_neg h

set_option maxRecDepth 100000 in
theorem lp_X0_firstChanged (σ : pST) {a t c kp : Nat} {lf : Nat → Nat} (ha : isA a) (ht : isT t) (hc : c ≤ 16) (hs : σ.1 a 0 = nI c) (hkp : σ.1 a 5 = nI kp) (hl : kp ≤ 12) (hlf : ∀ i, i < kp → σ.1 (a + 5) i = nI (lf i) ∧ lf i < 32) : ∀ (m i : Nat), i + m = kp → pR shX tX0_firstChanged fX0_firstChanged qX0_firstChanged lX0_firstChanged 5 1 (fun x => x = (σ, some (.inl (fcN (chP σ a t c lf) (fun i => nI (lf i)) m i)))) 2 [(2, .inl (nI i)), (1, .inr (.inr t)), (0, .inr (.inr a))] [] σ := by
  intro m
  induction m with
  | zero =>
    intro i hi
    refine pr_iload_n tX0_firstChanged_2 0 rfl ?_
    refine pr_aload_n tX0_firstChanged_3 2 rfl ?_
    refine pr_get0 tX0_firstChanged_4 rfl ha.1 rfl ?_
    refine pR_topi (y := (nI kp)) (by simp [pm_ui, pm_uj, upd, vp_updL, hkp]) ?_
    refine pr_ic_ge (pc' := 73) tX0_firstChanged_7 rfl (fun hc7 => ?_) (fun hc7 => ?_)
    · skip
      have hc7 : kp ≤ i := (nI_leI (by omega) (by omega)).mp hc7
      refine pr_iconst (v := -1) tX0_firstChanged_73 rfl ?_
      refine pr_iret tX0_firstChanged_74 rfl ?_
      rfl
    · skip
      exact absurd ((nI_leI (by omega) (by omega)).mpr (by omega)) hc7
  | succ m ih =>
    intro i hi
    refine pr_iload_n tX0_firstChanged_2 0 rfl ?_
    refine pr_aload_n tX0_firstChanged_3 2 rfl ?_
    refine pr_get0 tX0_firstChanged_4 rfl ha.1 rfl ?_
    refine pR_topi (y := (nI kp)) (by simp [pm_ui, pm_uj, upd, vp_updL, hkp]) ?_
    refine pr_ic_ge (pc' := 73) tX0_firstChanged_7 rfl (fun hc7 => ?_) (fun hc7 => ?_)
    · skip
      exact absurd ((nI_leI (by omega) (by omega)).mp hc7) (by omega)
    · skip
      have hc7 : ¬ kp ≤ i := fun z9 => hc7 ((nI_leI (by omega) (by omega)).mpr z9)
      refine pr_aload_n tX0_firstChanged_10 2 rfl ?_
      refine pr_geta (j := a + 5) tX0_firstChanged_11 rfl ha.1 rfl rfl ?_
      refine pr_iload_n tX0_firstChanged_14 0 rfl ?_
      refine pr_ial tX0_firstChanged_15 i ha.2.2.2.2.2.1 rfl (by omega) (by decide) ?_
      refine pR_topi (y := (nI (lf i))) ((hlf i (by omega)).1) ?_
      refine pr_istore_n (L' := [(3, .inl (nI (lf i))), (2, .inl (nI i)), (1, .inr (.inr t)), (0, .inr (.inr a))]) tX0_firstChanged_16 (by decide) rfl ?_
      refine pr_aload_n tX0_firstChanged_17 2 rfl ?_
      refine pr_iload_n tX0_firstChanged_18 0 rfl ?_
      refine pr_aload_n tX0_firstChanged_19 3 rfl ?_
      refine pr_get3 tX0_firstChanged_20 rfl ha.1 rfl ?_
      refine pR_topi (y := (nI c)) (by simp [pm_ui, pm_uj, upd, vp_updL, hs]) ?_
      refine pr_callV tX0_firstChanged_23 rfl ⟨Nat.le_of_ble_eq_true rfl, Nat.le_of_ble_eq_true rfl, rfl⟩ (ev_X5_writerBelow_o σ ht (hlf i (by omega)).2 hc) ?_
      refine pR_eq (st' := [.inl (oI (wbO (σ.1 (t + 2)) (lf i) c))]) rfl rfl ?_
      refine pr_istore (L' := [(4, .inl (oI (wbO (σ.1 (t + 2)) (lf i) c))), (3, .inl (nI (lf i))), (2, .inl (nI i)), (1, .inr (.inr t)), (0, .inr (.inr a))]) tX0_firstChanged_26 (by decide) rfl ?_
      refine pr_iload tX0_firstChanged_28 0 rfl ?_
      refine pr_aload_n tX0_firstChanged_30 4 rfl ?_
      refine pr_geta (j := a + 6) tX0_firstChanged_31 rfl ha.1 rfl rfl ?_
      refine pr_iload_n tX0_firstChanged_34 2 rfl ?_
      refine pr_ial tX0_firstChanged_35 i ha.2.2.2.2.2.2.1 rfl (by omega) (by decide) ?_
      refine pr_ic_ne (pc' := 65) tX0_firstChanged_36 rfl (fun hc36 => ?_) (fun hc36 => ?_)
      · skip
        skip
        refine pr_iload_n tX0_firstChanged_65 1 rfl ?_
        refine pr_iret tX0_firstChanged_66 rfl ?_
        rw [fcN_t (by grind)]
      · skip
        have hc36 := Decidable.not_not.mp hc36
        refine pr_aload_n tX0_firstChanged_39 3 rfl ?_
        refine pr_iload_n tX0_firstChanged_40 1 rfl ?_
        refine pr_iload tX0_firstChanged_41 0 rfl ?_
        refine pr_callV tX0_firstChanged_43 rfl ⟨Nat.le_of_ble_eq_true rfl, Nat.le_of_ble_eq_true rfl, rfl⟩ (ev_X5_isPerhaps_o σ ht (hlf i (by omega)).2 _ (fun j hj => Nat.lt_of_lt_of_le (wbO_l hj) hc)) ?_
        refine pR_eq (st' := [.inl (spO (σ.1 (t + 2)) (lf i) (wbO (σ.1 (t + 2)) (lf i) c))]) rfl rfl ?_
        refine pr_if_ne (pc' := 65) tX0_firstChanged_46 rfl (fun hc46 => ?_) (fun hc46 => ?_)
        · skip
          skip
          refine pr_iload_n tX0_firstChanged_65 1 rfl ?_
          refine pr_iret tX0_firstChanged_66 rfl ?_
          rw [fcN_t (by grind)]
        · skip
          have hc46 := Decidable.not_not.mp hc46
          refine pr_aload_n tX0_firstChanged_49 3 rfl ?_
          refine pr_iload_n tX0_firstChanged_50 1 rfl ?_
          refine pr_iload tX0_firstChanged_51 0 rfl ?_
          refine pr_callV tX0_firstChanged_53 rfl ⟨Nat.le_of_ble_eq_true rfl, Nat.le_of_ble_eq_true rfl, rfl⟩ (ev_X5_numberOf_o σ ht (hlf i (by omega)).2 _ (fun j hj => Nat.lt_of_lt_of_le (wbO_l hj) hc)) ?_
          refine pR_eq (st' := [.inl (snO (σ.1 (t + 3)) (lf i) (wbO (σ.1 (t + 2)) (lf i) c))]) rfl rfl ?_
          refine pr_aload_n tX0_firstChanged_56 4 rfl ?_
          refine pr_geta (j := a + 7) tX0_firstChanged_57 rfl ha.1 rfl rfl ?_
          refine pr_iload_n tX0_firstChanged_60 2 rfl ?_
          refine pr_ial tX0_firstChanged_61 i ha.2.2.2.2.2.2.2 rfl (by omega) (by decide) ?_
          refine pr_ic_eq (pc' := 67) tX0_firstChanged_62 rfl (fun hc62 => ?_) (fun hc62 => ?_)
          · skip
            skip
            refine pr_iinc (v := (nI (i + 1))) (L' := [(2, .inl (nI (i + 1))), (4, .inl (oI (wbO (σ.1 (t + 2)) (lf i) c))), (3, .inl (nI (lf i))), (1, .inr (.inr t)), (0, .inr (.inr a))]) tX0_firstChanged_67 2 rfl (nI_1 _) (by decide) rfl ?_
            refine pr_goto (pc' := 2) tX0_firstChanged_70 rfl ?_
            refine pR_sub (L' := [(2, .inl (nI (i + 1))), (1, .inr (.inr t)), (0, .inr (.inr a))]) [0, 3, 4] rfl ?_
            rw [fcN_f (by grind)]
            exact ih (i + 1) (by omega)
          · skip
            skip
            refine pr_iload_n tX0_firstChanged_65 1 rfl ?_
            refine pr_iret tX0_firstChanged_66 rfl ?_
            rw [fcN_t (by grind)]

set_option maxRecDepth 100000 in
theorem ev_X0_firstChanged (σ : pST) {a t c kp : Nat} {lf : Nat → Nat} (ha : isA a) (ht : isT t) (hc : c ≤ 16) (hs : σ.1 a 0 = nI c) (hkp : σ.1 a 5 = nI kp) (hl : kp ≤ 12) (hlf : ∀ i, i < kp → σ.1 (a + 5) i = nI (lf i) ∧ lf i < 32) : kX0_firstChanged σ [.inr (.inr a), .inr (.inr t)] = some ((σ, some (.inl (fcN (chP σ a t c lf) (fun i => nI (lf i)) kp 0)))) := by
  have key : ∃ x, kX0_firstChanged σ [.inr (.inr a), .inr (.inr t)] = some x ∧ x = (σ, some (.inl (fcN (chP σ a t c lf) (fun i => nI (lf i)) kp 0))) := by
    refine pR_met (post := fun x => x = (σ, some (.inl (fcN (chP σ a t c lf) (fun i => nI (lf i)) kp 0)))) ha.1 (Nat.le_of_ble_eq_true rfl) ?_
    show pR _ _ _ _ _ _ _ _ 0 [(0, .inr (.inr a)), (1, .inr (.inr t))] [] σ
    refine pr_iconst (v := nI 0) tX0_firstChanged_0 rfl ?_
    refine pr_istore_n (L' := [(2, .inl (nI 0)), (0, .inr (.inr a)), (1, .inr (.inr t))]) tX0_firstChanged_1 (by decide) rfl ?_
    refine pR_sub (L' := [(2, .inl (nI 0)), (1, .inr (.inr t)), (0, .inr (.inr a))]) [0, 2, 1] rfl ?_
    exact lp_X0_firstChanged σ ha ht hc hs hkp hl hlf kp 0 (by omega)
  obtain ⟨x, h1, h2⟩ := key
  rw [h1, h2]

/-- what Table.open leaves: the leaves copied, no entry -/
def opnT (σ : pST) (t : Nat) : pST := (filI σ.1 (t + 2) 512 0, fun x => if x = t + 1 then va_cpy (σ.2 1) (σ.2 (t + 1)) 0 0 32 else σ.2 x)
theorem ev_cpy (σ : pST) {t : Nat} (ht : isT t) : pm_cpy shX σ [.inr (.inr 1), .inl (nI 0), .inr (.inr (t + 1)), .inl (nI 0), .inl (nI 32)] = some (((σ.1, fun x => if x = t + 1 then va_cpy (σ.2 1) (σ.2 (t + 1)) 0 0 32 else σ.2 x), none)) := by
  unfold pm_cpy
  simp only [show shX 1 = .inr (1, 32) from rfl, ht.2.1]
  rw [if_neg (by decide)]
  rfl

set_option maxRecDepth 100000 in
theorem ev_X5_open (σ : pST) {t : Nat} (ht : isT t) : kX5_open σ [.inr (.inr t), .inr (.inr 1)] = some ((opnT σ t, none)) := by
  have key : ∃ x, kX5_open σ [.inr (.inr t), .inr (.inr 1)] = some x ∧ x = (opnT σ t, none) := by
    refine pR_met (post := fun x => x = (opnT σ t, none)) ht.1 (Nat.le_of_ble_eq_true rfl) ?_
    show pR _ _ _ _ _ _ _ _ 0 [(0, .inr (.inr t)), (1, .inr (.inr 1))] [] σ
    refine pr_aload_n tX5_open_0 1 rfl ?_
    refine pr_iconst (v := nI 0) tX5_open_1 rfl ?_
    refine pr_aload_n tX5_open_2 0 rfl ?_
    refine pr_geta (j := t + 1) tX5_open_3 rfl ht.1 rfl rfl ?_
    refine pr_iconst (v := nI 0) tX5_open_6 rfl ?_
    refine pr_bipush (v := nI 32) tX5_open_7 rfl ?_
    refine pr_callS tX5_open_9 rfl ⟨Nat.le_of_ble_eq_true rfl, Nat.le_of_ble_eq_true rfl, rfl⟩ (ev_cpy σ ht) ?_
    refine pR_eq (st' := []) rfl rfl ?_
    refine pr_aload_n tX5_open_12 0 rfl ?_
    refine pr_geta (j := t + 2) tX5_open_13 rfl ht.1 rfl rfl ?_
    refine pr_iconst (v := nI 0) tX5_open_16 rfl ?_
    refine pr_callS tX5_open_17 rfl ⟨Nat.le_of_ble_eq_true rfl, Nat.le_of_ble_eq_true rfl, rfl⟩ (ev_J7_fill_53178 _ ht.2.2.1 (by decide) 0) ?_
    refine pR_eq (st' := []) rfl rfl ?_
    refine pr_ret tX5_open_20 rfl ?_
    rfl
  obtain ⟨x, h1, h2⟩ := key
  rw [h1, h2]

abbrev wrP (σ : pST) (a k : Nat) : Prop := ¬ σ.1 a 12 &&& (nI 1 <<< (nI k &&& 31)) = 0
/-- what publish leaves, of the first m leaves -/
def pubI (σ : pST) (a t c : Nat) (num : Int32) (m : Nat) : Nat → Nat → Int32 := fun x y => if x = t + 2 ∧ y % 16 = c ∧ y / 16 < m then (if wrP σ a (y / 16) then nI 1 else 0) else if x = t + 3 ∧ y % 16 = c ∧ y / 16 < m ∧ wrP σ a (y / 16) then num else σ.1 x y
def pubJ (σ : pST) (a t c : Nat) (m : Nat) : Nat → Nat → Int64 := fun x y => if x = t + 4 ∧ y % 16 = c ∧ y / 16 < m ∧ wrP σ a (y / 16) then σ.2 (a + 1) (y / 16) else σ.2 x y
def pubS (σ : pST) (a t c : Nat) (num : Int32) (m : Nat) : pST := (pubI σ a t c num m, pubJ σ a t c m)
def frN (σ : pST) (a t c : Nat) : Nat → Int32
  | 0 => 0
  | m + 1 => if frN σ a t c m = 0 ∧ wrP σ a m ∧ σ.1 (t + 2) (m * 16 + c) = 0 then 1 else frN σ a t c m
theorem frN_b {σ : pST} {a t c : Nat} : ∀ m, frN σ a t c m = 0 ∨ frN σ a t c m = 1
  | 0 => .inl rfl
  | m + 1 => by
    unfold frN
    split
    · exact .inr rfl
    · exact frN_b m
theorem pub_0 {σ : pST} {a t c : Nat} {num : Int32} : pubS σ a t c num 0 = σ := by
  refine Prod.ext ?_ ?_
  · funext x y
    show (if _ then _ else _) = _
    rw [if_neg (by omega), if_neg (by omega)]
  · funext x y
    show (if _ then _ else _) = _
    rw [if_neg (by omega)]
theorem pub_oi {σ : pST} {a t c x m : Nat} {num : Int32} (h1 : x ≠ t + 2) (h2 : x ≠ t + 3) : (pubS σ a t c num m).1 x = σ.1 x := by
  funext y
  show (if _ then _ else _) = _
  rw [if_neg (by omega), if_neg (by omega)]
theorem pub_oj {σ : pST} {a t c x m : Nat} {num : Int32} (h1 : x ≠ t + 4) : (pubS σ a t c num m).2 x = σ.2 x := by
  funext y
  show (if _ then _ else _) = _
  rw [if_neg (by omega)]
theorem pub_s {σ : pST} {a t c m : Nat} {num : Int32} (hc : c < 16) : (pubS σ a t c num m).1 (t + 2) (m * 16 + c) = σ.1 (t + 2) (m * 16 + c) := by
  show (if _ then _ else _) = _
  rw [if_neg (by omega), if_neg (by omega)]
theorem pub_t {σ : pST} {a t c i : Nat} {num : Int32} (hc : c < 16) (h : wrP σ a i) : ((pm_ui (pm_ui (pubS σ a t c num i).1 (t + 2) (i * 16 + c) (nI 1)) (t + 3) (i * 16 + c) num, pm_uj (pubS σ a t c num i).2 (t + 4) (i * 16 + c) (σ.2 (a + 1) i)) : pST) = pubS σ a t c num (i + 1) := by
  refine Prod.ext ?_ ?_
  · funext x y
    show pm_ui (pm_ui (pubI σ a t c num i) (t + 2) (i * 16 + c) (nI 1)) (t + 3) (i * 16 + c) num x y = pubI σ a t c num (i + 1) x y
    simp only [pm_ui_a, pubI]
    by_cases hy : y = i * 16 + c
    · have e1 : (i * 16 + c) % 16 = c := by omega
      have e2 : (i * 16 + c) / 16 = i := by omega
      subst hy
      simp only [e1, e2]
      grind
    · grind
  · funext x y
    show pm_uj (pubJ σ a t c i) (t + 4) (i * 16 + c) (σ.2 (a + 1) i) x y = pubJ σ a t c (i + 1) x y
    simp only [pm_uj_a, pubJ]
    by_cases hy : y = i * 16 + c
    · have e1 : (i * 16 + c) % 16 = c := by omega
      have e2 : (i * 16 + c) / 16 = i := by omega
      subst hy
      simp only [e1, e2]
      grind
    · grind
theorem pub_f {σ : pST} {a t c i : Nat} {num : Int32} (hc : c < 16) (h : ¬ wrP σ a i) : ((pm_ui (pubS σ a t c num i).1 (t + 2) (i * 16 + c) (nI 0), (pubS σ a t c num i).2) : pST) = pubS σ a t c num (i + 1) := by
  refine Prod.ext ?_ ?_
  · funext x y
    show pm_ui (pubI σ a t c num i) (t + 2) (i * 16 + c) (nI 0) x y = pubI σ a t c num (i + 1) x y
    simp only [pm_ui_a, pubI, nI_0]
    by_cases hy : y = i * 16 + c
    · have e1 : (i * 16 + c) % 16 = c := by omega
      have e2 : (i * 16 + c) / 16 = i := by omega
      subst hy
      simp only [e1, e2]
      grind
    · grind
  · funext x y
    show pubJ σ a t c i x y = pubJ σ a t c (i + 1) x y
    simp only [pubJ]
    by_cases hy : y = i * 16 + c
    · have e1 : (i * 16 + c) % 16 = c := by omega
      have e2 : (i * 16 + c) / 16 = i := by omega
      subst hy
      simp only [e1, e2]
      grind
    · grind
theorem frN_t {σ : pST} {a t c i : Nat} (h : frN σ a t c i = 0 ∧ wrP σ a i ∧ σ.1 (t + 2) (i * 16 + c) = 0) : frN σ a t c (i + 1) = 1 := if_pos h
theorem frN_f {σ : pST} {a t c i : Nat} (h : ¬ (frN σ a t c i = 0 ∧ wrP σ a i ∧ σ.1 (t + 2) (i * 16 + c) = 0)) : frN σ a t c (i + 1) = frN σ a t c i := if_neg h

set_option maxRecDepth 100000 in
theorem lp_X5_publish (σ : pST) {a t c : Nat} (ha : isA a) (ht : isT t) (hat : a + 7 < t ∨ t + 4 < a) (hc : c < 16) (hs : σ.1 a 0 = nI c) (num : Int32) : ∀ (m i : Nat), i + m = 32 → pR shX tX5_publish fX5_publish qX5_publish lX5_publish 6 2 (fun x => x = (pubS σ a t c num 32, some (.inl (frN σ a t c 32)))) 5 [(4, .inl (nI i)), (3, .inl (frN σ a t c i)), (2, .inl num), (1, .inr (.inr a)), (0, .inr (.inr t))] [] (pubS σ a t c num i) := by
  intro m
  induction m with
  | zero =>
    intro i hi
    refine pr_iload tX5_publish_5 0 rfl ?_
    refine pr_bipush (v := nI 32) tX5_publish_7 rfl ?_
    refine pr_ic_ge (pc' := 100) tX5_publish_9 rfl (fun hc9 => ?_) (fun hc9 => ?_)
    · skip
      have hc9 : 32 ≤ i := (nI_leI (by omega) (by omega)).mp hc9
      refine pr_iload_n tX5_publish_100 1 rfl ?_
      refine pr_zret tX5_publish_101 rfl (frN_b _) ?_
      rw [show i = 32 by omega]
    · skip
      exact absurd ((nI_leI (by omega) (by omega)).mpr (by omega)) hc9
  | succ m ih =>
    intro i hi
    refine pr_iload tX5_publish_5 0 rfl ?_
    refine pr_bipush (v := nI 32) tX5_publish_7 rfl ?_
    refine pr_ic_ge (pc' := 100) tX5_publish_9 rfl (fun hc9 => ?_) (fun hc9 => ?_)
    · skip
      exact absurd ((nI_leI (by omega) (by omega)).mp hc9) (by omega)
    · skip
      have hc9 : ¬ 32 ≤ i := fun z9 => hc9 ((nI_leI (by omega) (by omega)).mpr z9)
      refine pr_iload tX5_publish_12 0 rfl ?_
      refine pr_bipush (v := nI 16) tX5_publish_14 rfl ?_
      refine pr_imul (v := (nI (i * 16))) tX5_publish_16 (pk_mul _ _) ?_
      refine pr_aload_n tX5_publish_17 3 rfl ?_
      refine pr_get3 tX5_publish_18 rfl ha.1 rfl ?_
      refine pR_topi (y := (nI c)) ((congrFun (pub_oi (by omega) (by omega)) _).trans hs) ?_
      refine pr_iadd (v := (nI (i * 16 + c))) tX5_publish_21 (nI_add _ _) ?_
      refine pr_istore (L' := [(5, .inl (nI (i * 16 + c))), (4, .inl (nI i)), (3, .inl (frN σ a t c i)), (2, .inl num), (1, .inr (.inr a)), (0, .inr (.inr t))]) tX5_publish_22 (by decide) rfl ?_
      refine pr_aload_n tX5_publish_24 4 rfl ?_
      refine pr_iload tX5_publish_25 1 rfl ?_
      refine pr_callV tX5_publish_27 rfl ⟨Nat.le_of_ble_eq_true rfl, Nat.le_of_ble_eq_true rfl, rfl⟩ ((ev_X0_hasWritten (pubS σ a t c num i) ha (nI i)).trans (by rw [pub_oi (by omega) (by omega)])) ?_
      refine pR_eq (st' := [.inl (if σ.1 a 12 &&& (nI 1 <<< (nI i &&& 31)) = 0 then 0 else 1)]) rfl rfl ?_
      refine pr_if_eq (pc' := 86) tX5_publish_30 rfl (fun hc30 => ?_) (fun hc30 => ?_)
      · skip
        have hW : ¬ wrP σ a i := fun z => by rw [if_neg z] at hc30; exact absurd hc30 (by decide)
        refine pr_aload_n tX5_publish_86 5 rfl ?_
        refine pr_geta (j := t + 2) tX5_publish_87 rfl ht.1 rfl rfl ?_
        refine pr_iload tX5_publish_90 0 rfl ?_
        refine pr_iconst (v := nI 0) tX5_publish_92 rfl ?_
        refine pr_ias tX5_publish_93 (i * 16 + c) ht.2.2.1 rfl (by omega) (by decide) ?_
        obtain ⟨σ1, eσ1⟩ : ∃ z : pST, z = (pm_ui (pubS σ a t c num i).1 (t + 2) (i * 16 + c) (nI 0), (pubS σ a t c num i).2) := ⟨_, rfl⟩
        rw [← eσ1]
        refine pr_iinc (v := (nI (i + 1))) (L' := [(4, .inl (nI (i + 1))), (5, .inl (nI (i * 16 + c))), (3, .inl (frN σ a t c i)), (2, .inl num), (1, .inr (.inr a)), (0, .inr (.inr t))]) tX5_publish_94 1 rfl (nI_1 _) (by decide) rfl ?_
        refine pr_goto (pc' := 5) tX5_publish_97 rfl ?_
        refine pR_sub (L' := [(4, .inl (nI (i + 1))), (3, .inl (frN σ a t c i)), (2, .inl num), (1, .inr (.inr a)), (0, .inr (.inr t))]) [0, 2, 3, 4, 5] rfl ?_
        have e8 : (frN σ a t c i) = frN σ a t c (i + 1) := (frN_f (fun z => hW z.2.1)).symm
        rw [e8]
        rw [eσ1]
        rw [pub_f hc hW]
        exact ih (i + 1) (by omega)
      · skip
        have hW : wrP σ a i := fun z => hc30 (if_pos z)
        refine pr_iload_n tX5_publish_33 2 rfl ?_
        refine pr_if_ne (pc' := 47) tX5_publish_34 rfl (fun hc34 => ?_) (fun hc34 => ?_)
        · skip
          skip
          refine pr_iconst (v := nI 1) tX5_publish_47 rfl ?_
          refine pr_goto (pc' := 52) tX5_publish_48 rfl ?_
          refine pr_istore_n (L' := [(3, .inl (nI 1)), (5, .inl (nI (i * 16 + c))), (4, .inl (nI i)), (2, .inl num), (1, .inr (.inr a)), (0, .inr (.inr t))]) tX5_publish_52 (by decide) rfl ?_
          refine pr_aload_n tX5_publish_53 5 rfl ?_
          refine pr_geta (j := t + 2) tX5_publish_54 rfl ht.1 rfl rfl ?_
          refine pr_iload tX5_publish_57 1 rfl ?_
          refine pr_iconst (v := nI 1) tX5_publish_59 rfl ?_
          refine pr_ias tX5_publish_60 (i * 16 + c) ht.2.2.1 rfl (by omega) (by decide) ?_
          obtain ⟨σ2, eσ2⟩ : ∃ z : pST, z = (pm_ui (pubS σ a t c num i).1 (t + 2) (i * 16 + c) (nI 1), (pubS σ a t c num i).2) := ⟨_, rfl⟩
          rw [← eσ2]
          refine pr_aload_n tX5_publish_61 5 rfl ?_
          refine pr_geta (j := t + 3) tX5_publish_62 rfl ht.1 rfl rfl ?_
          refine pr_iload tX5_publish_65 1 rfl ?_
          refine pr_iload_n tX5_publish_67 3 rfl ?_
          refine pr_ias tX5_publish_68 (i * 16 + c) ht.2.2.2.1 rfl (by omega) (by decide) ?_
          obtain ⟨σ3, eσ3⟩ : ∃ z : pST, z = (pm_ui σ2.1 (t + 3) (i * 16 + c) num, σ2.2) := ⟨_, rfl⟩
          rw [← eσ3]
          refine pr_aload_n tX5_publish_69 5 rfl ?_
          refine pr_geta (j := t + 4) tX5_publish_70 rfl ht.1 rfl rfl ?_
          refine pr_iload tX5_publish_73 1 rfl ?_
          refine pr_aload_n tX5_publish_75 4 rfl ?_
          refine pr_geta (j := a + 1) tX5_publish_76 rfl ha.1 rfl rfl ?_
          refine pr_iload tX5_publish_79 2 rfl ?_
          refine pr_lal tX5_publish_81 i ha.2.1 rfl (by omega) (by decide) ?_
          refine pR_topl (y := σ.2 (a + 1) i) (by simp only [eσ2, eσ3]; exact congrFun (pub_oj (by omega)) _) ?_
          refine pr_las tX5_publish_82 (i * 16 + c) ht.2.2.2.2 rfl (by omega) (by decide) ?_
          obtain ⟨σ4, eσ4⟩ : ∃ z : pST, z = (σ3.1, pm_uj σ3.2 (t + 4) (i * 16 + c) (σ.2 (a + 1) i)) := ⟨_, rfl⟩
          rw [← eσ4]
          refine pr_goto (pc' := 94) tX5_publish_83 rfl ?_
          refine pr_iinc (v := (nI (i + 1))) (L' := [(4, .inl (nI (i + 1))), (3, .inl (nI 1)), (5, .inl (nI (i * 16 + c))), (2, .inl num), (1, .inr (.inr a)), (0, .inr (.inr t))]) tX5_publish_94 2 rfl (nI_1 _) (by decide) rfl ?_
          refine pr_goto (pc' := 5) tX5_publish_97 rfl ?_
          refine pR_sub (L' := [(4, .inl (nI (i + 1))), (3, .inl (nI 1)), (2, .inl num), (1, .inr (.inr a)), (0, .inr (.inr t))]) [0, 1, 3, 4, 5] rfl ?_
          have e8 : (nI 1) = frN σ a t c (i + 1) := by first | exact (frN_t ⟨hc34, hW, hc44⟩).symm | (rw [frN_f (fun z => hc34 z.1)]; exact ((frN_b i).resolve_left hc34).symm) | (rw [frN_f (fun z => hc44 z.2.2)]; exact hc34.symm)
          rw [e8]
          rw [eσ4, eσ3, eσ2]
          rw [pub_t hc hW]
          exact ih (i + 1) (by omega)
        · skip
          have hc34 := Decidable.not_not.mp hc34
          refine pr_aload_n tX5_publish_37 5 rfl ?_
          refine pr_geta (j := t + 2) tX5_publish_38 rfl ht.1 rfl rfl ?_
          refine pr_iload tX5_publish_41 0 rfl ?_
          refine pr_ial tX5_publish_43 (i * 16 + c) ht.2.2.1 rfl (by omega) (by decide) ?_
          refine pR_topi (y := (σ.1 (t + 2) (i * 16 + c))) (pub_s hc) ?_
          refine pr_if_ne (pc' := 51) tX5_publish_44 rfl (fun hc44 => ?_) (fun hc44 => ?_)
          · skip
            skip
            refine pr_iconst (v := nI 0) tX5_publish_51 rfl ?_
            refine pr_istore_n (L' := [(3, .inl (nI 0)), (5, .inl (nI (i * 16 + c))), (4, .inl (nI i)), (2, .inl num), (1, .inr (.inr a)), (0, .inr (.inr t))]) tX5_publish_52 (by decide) rfl ?_
            refine pr_aload_n tX5_publish_53 5 rfl ?_
            refine pr_geta (j := t + 2) tX5_publish_54 rfl ht.1 rfl rfl ?_
            refine pr_iload tX5_publish_57 1 rfl ?_
            refine pr_iconst (v := nI 1) tX5_publish_59 rfl ?_
            refine pr_ias tX5_publish_60 (i * 16 + c) ht.2.2.1 rfl (by omega) (by decide) ?_
            obtain ⟨σ5, eσ5⟩ : ∃ z : pST, z = (pm_ui (pubS σ a t c num i).1 (t + 2) (i * 16 + c) (nI 1), (pubS σ a t c num i).2) := ⟨_, rfl⟩
            rw [← eσ5]
            refine pr_aload_n tX5_publish_61 5 rfl ?_
            refine pr_geta (j := t + 3) tX5_publish_62 rfl ht.1 rfl rfl ?_
            refine pr_iload tX5_publish_65 1 rfl ?_
            refine pr_iload_n tX5_publish_67 3 rfl ?_
            refine pr_ias tX5_publish_68 (i * 16 + c) ht.2.2.2.1 rfl (by omega) (by decide) ?_
            obtain ⟨σ6, eσ6⟩ : ∃ z : pST, z = (pm_ui σ5.1 (t + 3) (i * 16 + c) num, σ5.2) := ⟨_, rfl⟩
            rw [← eσ6]
            refine pr_aload_n tX5_publish_69 5 rfl ?_
            refine pr_geta (j := t + 4) tX5_publish_70 rfl ht.1 rfl rfl ?_
            refine pr_iload tX5_publish_73 1 rfl ?_
            refine pr_aload_n tX5_publish_75 4 rfl ?_
            refine pr_geta (j := a + 1) tX5_publish_76 rfl ha.1 rfl rfl ?_
            refine pr_iload tX5_publish_79 2 rfl ?_
            refine pr_lal tX5_publish_81 i ha.2.1 rfl (by omega) (by decide) ?_
            refine pR_topl (y := σ.2 (a + 1) i) (by simp only [eσ5, eσ6]; exact congrFun (pub_oj (by omega)) _) ?_
            refine pr_las tX5_publish_82 (i * 16 + c) ht.2.2.2.2 rfl (by omega) (by decide) ?_
            obtain ⟨σ7, eσ7⟩ : ∃ z : pST, z = (σ6.1, pm_uj σ6.2 (t + 4) (i * 16 + c) (σ.2 (a + 1) i)) := ⟨_, rfl⟩
            rw [← eσ7]
            refine pr_goto (pc' := 94) tX5_publish_83 rfl ?_
            refine pr_iinc (v := (nI (i + 1))) (L' := [(4, .inl (nI (i + 1))), (3, .inl (nI 0)), (5, .inl (nI (i * 16 + c))), (2, .inl num), (1, .inr (.inr a)), (0, .inr (.inr t))]) tX5_publish_94 2 rfl (nI_1 _) (by decide) rfl ?_
            refine pr_goto (pc' := 5) tX5_publish_97 rfl ?_
            refine pR_sub (L' := [(4, .inl (nI (i + 1))), (3, .inl (nI 0)), (2, .inl num), (1, .inr (.inr a)), (0, .inr (.inr t))]) [0, 1, 3, 4, 5] rfl ?_
            have e8 : (nI 0) = frN σ a t c (i + 1) := by first | exact (frN_t ⟨hc34, hW, hc44⟩).symm | (rw [frN_f (fun z => hc34 z.1)]; exact ((frN_b i).resolve_left hc34).symm) | (rw [frN_f (fun z => hc44 z.2.2)]; exact hc34.symm)
            rw [e8]
            rw [eσ7, eσ6, eσ5]
            rw [pub_t hc hW]
            exact ih (i + 1) (by omega)
          · skip
            have hc44 := Decidable.not_not.mp hc44
            refine pr_iconst (v := nI 1) tX5_publish_47 rfl ?_
            refine pr_goto (pc' := 52) tX5_publish_48 rfl ?_
            refine pr_istore_n (L' := [(3, .inl (nI 1)), (5, .inl (nI (i * 16 + c))), (4, .inl (nI i)), (2, .inl num), (1, .inr (.inr a)), (0, .inr (.inr t))]) tX5_publish_52 (by decide) rfl ?_
            refine pr_aload_n tX5_publish_53 5 rfl ?_
            refine pr_geta (j := t + 2) tX5_publish_54 rfl ht.1 rfl rfl ?_
            refine pr_iload tX5_publish_57 1 rfl ?_
            refine pr_iconst (v := nI 1) tX5_publish_59 rfl ?_
            refine pr_ias tX5_publish_60 (i * 16 + c) ht.2.2.1 rfl (by omega) (by decide) ?_
            obtain ⟨σ8, eσ8⟩ : ∃ z : pST, z = (pm_ui (pubS σ a t c num i).1 (t + 2) (i * 16 + c) (nI 1), (pubS σ a t c num i).2) := ⟨_, rfl⟩
            rw [← eσ8]
            refine pr_aload_n tX5_publish_61 5 rfl ?_
            refine pr_geta (j := t + 3) tX5_publish_62 rfl ht.1 rfl rfl ?_
            refine pr_iload tX5_publish_65 1 rfl ?_
            refine pr_iload_n tX5_publish_67 3 rfl ?_
            refine pr_ias tX5_publish_68 (i * 16 + c) ht.2.2.2.1 rfl (by omega) (by decide) ?_
            obtain ⟨σ9, eσ9⟩ : ∃ z : pST, z = (pm_ui σ8.1 (t + 3) (i * 16 + c) num, σ8.2) := ⟨_, rfl⟩
            rw [← eσ9]
            refine pr_aload_n tX5_publish_69 5 rfl ?_
            refine pr_geta (j := t + 4) tX5_publish_70 rfl ht.1 rfl rfl ?_
            refine pr_iload tX5_publish_73 1 rfl ?_
            refine pr_aload_n tX5_publish_75 4 rfl ?_
            refine pr_geta (j := a + 1) tX5_publish_76 rfl ha.1 rfl rfl ?_
            refine pr_iload tX5_publish_79 2 rfl ?_
            refine pr_lal tX5_publish_81 i ha.2.1 rfl (by omega) (by decide) ?_
            refine pR_topl (y := σ.2 (a + 1) i) (by simp only [eσ8, eσ9]; exact congrFun (pub_oj (by omega)) _) ?_
            refine pr_las tX5_publish_82 (i * 16 + c) ht.2.2.2.2 rfl (by omega) (by decide) ?_
            obtain ⟨σ10, eσ10⟩ : ∃ z : pST, z = (σ9.1, pm_uj σ9.2 (t + 4) (i * 16 + c) (σ.2 (a + 1) i)) := ⟨_, rfl⟩
            rw [← eσ10]
            refine pr_goto (pc' := 94) tX5_publish_83 rfl ?_
            refine pr_iinc (v := (nI (i + 1))) (L' := [(4, .inl (nI (i + 1))), (3, .inl (nI 1)), (5, .inl (nI (i * 16 + c))), (2, .inl num), (1, .inr (.inr a)), (0, .inr (.inr t))]) tX5_publish_94 2 rfl (nI_1 _) (by decide) rfl ?_
            refine pr_goto (pc' := 5) tX5_publish_97 rfl ?_
            refine pR_sub (L' := [(4, .inl (nI (i + 1))), (3, .inl (nI 1)), (2, .inl num), (1, .inr (.inr a)), (0, .inr (.inr t))]) [0, 1, 3, 4, 5] rfl ?_
            have e8 : (nI 1) = frN σ a t c (i + 1) := by first | exact (frN_t ⟨hc34, hW, hc44⟩).symm | (rw [frN_f (fun z => hc34 z.1)]; exact ((frN_b i).resolve_left hc34).symm) | (rw [frN_f (fun z => hc44 z.2.2)]; exact hc34.symm)
            rw [e8]
            rw [eσ10, eσ9, eσ8]
            rw [pub_t hc hW]
            exact ih (i + 1) (by omega)

set_option maxRecDepth 100000 in
theorem ev_X5_publish (σ : pST) {a t c : Nat} (ha : isA a) (ht : isT t) (hat : a + 7 < t ∨ t + 4 < a) (hc : c < 16) (hs : σ.1 a 0 = nI c) (num : Int32) : kX5_publish σ [.inr (.inr t), .inr (.inr a), .inl num] = some ((pubS σ a t c num 32, some (.inl (frN σ a t c 32)))) := by
  have key : ∃ x, kX5_publish σ [.inr (.inr t), .inr (.inr a), .inl num] = some x ∧ x = (pubS σ a t c num 32, some (.inl (frN σ a t c 32))) := by
    refine pR_met (post := fun x => x = (pubS σ a t c num 32, some (.inl (frN σ a t c 32)))) ht.1 (Nat.le_of_ble_eq_true rfl) ?_
    show pR _ _ _ _ _ _ _ _ 0 [(0, .inr (.inr t)), (1, .inr (.inr a)), (2, .inl num)] [] σ
    refine pr_iconst (v := nI 0) tX5_publish_0 rfl ?_
    refine pr_istore_n (L' := [(3, .inl (nI 0)), (0, .inr (.inr t)), (1, .inr (.inr a)), (2, .inl num)]) tX5_publish_1 (by decide) rfl ?_
    refine pr_iconst (v := nI 0) tX5_publish_2 rfl ?_
    refine pr_istore (L' := [(4, .inl (nI 0)), (3, .inl (nI 0)), (0, .inr (.inr t)), (1, .inr (.inr a)), (2, .inl num)]) tX5_publish_3 (by decide) rfl ?_
    refine pR_sub (L' := [(4, .inl (nI 0)), (3, .inl (nI 0)), (2, .inl num), (1, .inr (.inr a)), (0, .inr (.inr t))]) [0, 1, 4, 3, 2] rfl ?_
    have h9 := lp_X5_publish σ ha ht hat hc hs num 32 0 (by omega)
    rw [pub_0] at h9
    exact h9
  obtain ⟨x, h1, h2⟩ := key
  rw [h1, h2]
