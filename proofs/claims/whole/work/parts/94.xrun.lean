/-! ===== run and inOrder of the class ===== -/
def lvJ (J : Nat → Nat → Int64) (i : Nat) (f : Nat → Int64) : Nat → Nat → Int64 := fun x y => if x = 1 ∧ y < i then f y else J x y
theorem lvJ_0 {J : Nat → Nat → Int64} {f : Nat → Int64} : lvJ J 0 f = J := by
  funext x y
  exact if_neg (by omega)
theorem lvJ_s {J : Nat → Nat → Int64} {i : Nat} {f : Nat → Int64} : pm_uj (lvJ J i f) 1 i (f i) = lvJ J (i + 1) f := by
  funext x y
  rw [pm_uj_a]
  unfold lvJ
  by_cases e : x = 1 ∧ y = i
  · rw [if_pos e, if_pos ⟨e.1, by omega⟩, e.2]
  · rw [if_neg e]
    by_cases q : x = 1 ∧ y < i
    · rw [if_pos q, if_pos ⟨q.1, by omega⟩]
    · rw [if_neg q, if_neg (by omega)]
theorem lvJ_o {J : Nat → Nat → Int64} {i x : Nat} {f : Nat → Int64} (h : x ≠ 1) : lvJ J i f x = J x := by
  funext y
  exact if_neg (fun z => h z.1)
def vaT (T : TbS) (k : Nat) : Int64 := svT T k (wbT T k 16)
theorem va_eq {σ : pST} {t k : Nat} {T : TbS} (ht : isT t) (h : RXtb σ t T 16) (hk : k < 32) : kX5_valueAfter σ [.inr (.inr t), .inl (nI k)] = some (σ, some (.inr (.inl (vaT T k)))) := by
  rw [ev_X5_valueAfter_o σ ht hk, rx_wb h hk 16 (Nat.le_refl _)]
  unfold vaT
  cases hw : wbT T k 16 with
  | none =>
    show some (σ, some (Sum.inr (Sum.inl (σ.2 (t + 1) k)))) = some (σ, some (Sum.inr (Sum.inl (T.bf k))))
    rw [h.bf k hk]
  | some j =>
    obtain ⟨h1, h2⟩ := wbT_l hw
    show some (σ, some (Sum.inr (Sum.inl (σ.2 (t + 4) (k * 16 + j))))) = some (σ, some (Sum.inr (Sum.inl (T.vl j k))))
    rw [(h.nv k j hk h1 h2).2]

set_option maxRecDepth 100000 in
theorem lp_X7_run {ρ : pST} {T : TbS} (h : RXtb ρ 10 T 16) : ∀ (m i : Nat), i + m = 32 → pR shX tX7_run fX7_run qX7_run lX7_run 4 1 (fun x => x = ((ρ.1, lvJ ρ.2 32 (vaT T)), some (.inl (ρ.1 8 2)))) 46 [(3, .inl (nI i)), (0, .inr (.inr 0))] [] (ρ.1, lvJ ρ.2 i (vaT T)) := by
  intro m
  induction m with
  | zero =>
    intro i hi
    refine pr_iload_n tX7_run_46 0 rfl ?_
    refine pr_bipush (v := nI 32) tX7_run_47 rfl ?_
    refine pr_ic_ge (pc' := 78) tX7_run_49 rfl (fun hc49 => ?_) (fun hc49 => ?_)
    · skip
      have hc49 : 32 ≤ i := (nI_leI (by omega) (by omega)).mp hc49
      refine pr_aload_n tX7_run_78 1 rfl ?_
      refine pr_geta (j := 8) tX7_run_79 rfl rfl rfl rfl ?_
      refine pr_get0 tX7_run_82 rfl rfl rfl ?_
      refine pr_iret tX7_run_85 rfl ?_
      rw [show i = 32 by omega]
    · skip
      exact absurd ((nI_leI (by omega) (by omega)).mpr (by omega)) hc49
  | succ m ih =>
    intro i hi
    refine pr_iload_n tX7_run_46 0 rfl ?_
    refine pr_bipush (v := nI 32) tX7_run_47 rfl ?_
    refine pr_ic_ge (pc' := 78) tX7_run_49 rfl (fun hc49 => ?_) (fun hc49 => ?_)
    · skip
      exact absurd ((nI_leI (by omega) (by omega)).mp hc49) (by omega)
    · skip
      have hc49 : ¬ 32 ≤ i := fun z9 => hc49 ((nI_leI (by omega) (by omega)).mpr z9)
      refine pr_aload_n tX7_run_52 1 rfl ?_
      refine pr_geta (j := 1) tX7_run_53 rfl rfl rfl rfl ?_
      refine pr_iload_n tX7_run_56 0 rfl ?_
      refine pr_aload_n tX7_run_57 1 rfl ?_
      refine pr_geta (j := 8) tX7_run_58 rfl rfl rfl rfl ?_
      refine pr_geta (j := 9) tX7_run_61 rfl rfl rfl rfl ?_
      refine pr_geta (j := 10) tX7_run_64 rfl rfl rfl rfl ?_
      refine pr_iload_n tX7_run_67 0 rfl ?_
      refine pr_callV tX7_run_68 rfl ⟨Nat.le_of_ble_eq_true rfl, Nat.le_of_ble_eq_true rfl, rfl⟩ (va_eq (t := 10) isT10 (T := T) (tb_c h fun x z1 z2 => ⟨rfl, lvJ_o (ge_ne z1 (by decide))⟩) (by omega)) ?_
      refine pR_eq (st' := [.inr (.inl (vaT T i)), .inl (nI i), .inr (.inr 1)]) rfl rfl ?_
      refine pr_las tX7_run_71 i rfl rfl (by omega) (by decide) ?_
      obtain ⟨σ1, eσ1⟩ : ∃ z : pST, z = ((ρ.1, lvJ ρ.2 i (vaT T)).1, pm_uj (ρ.1, lvJ ρ.2 i (vaT T)).2 1 i (vaT T i)) := ⟨_, rfl⟩
      rw [← eσ1]
      refine pr_iinc (v := (nI (i + 1))) (L' := [(3, .inl (nI (i + 1))), (0, .inr (.inr 0))]) tX7_run_72 0 rfl (nI_1 _) (by decide) rfl ?_
      refine pr_goto (pc' := 46) tX7_run_75 rfl ?_
      refine pR_sub (L' := [(3, .inl (nI (i + 1))), (0, .inr (.inr 0))]) [0, 1] rfl ?_
      have e9 : σ1 = (ρ.1, lvJ ρ.2 (i + 1) (vaT T)) := by rw [eσ1]; exact Prod.ext rfl lvJ_s
      rw [e9]
      exact ih (i + 1) (by omega)

set_option maxRecDepth 100000 in
theorem ev_X7_run (σ : pST) {sz bd : Nat} {u : Int32} {ρ : pST} {T : TbS} (h1 : 1 ≤ sz) (h4 : sz ≤ 4) (hbd : σ.1 0 4 = nI bd) (hw : kX6_work (opnW σ sz bd) [.inr (.inr 8), .inr (.inr 2), .inl u] = some (ρ, none)) (h : RXtb ρ 10 T 16) : kX7_run σ [.inr (.inr 0), .inl (nI sz), .inl u] = some (((ρ.1, lvJ ρ.2 32 (vaT T)), some (.inl (ρ.1 8 2)))) := by
  have key : ∃ x, kX7_run σ [.inr (.inr 0), .inl (nI sz), .inl u] = some x ∧ x = ((ρ.1, lvJ ρ.2 32 (vaT T)), some (.inl (ρ.1 8 2))) := by
    refine pR_met (post := fun x => x = ((ρ.1, lvJ ρ.2 32 (vaT T)), some (.inl (ρ.1 8 2)))) rfl (Nat.le_of_ble_eq_true rfl) ?_
    show pR _ _ _ _ _ _ _ _ 0 [(0, .inr (.inr 0)), (1, .inl (nI sz)), (2, .inl u)] [] σ
    refine pr_iload_n tX7_run_0 1 rfl ?_
    refine pr_iconst (v := nI 1) tX7_run_1 rfl ?_
    refine pr_ic_lt (pc' := 10) tX7_run_2 rfl (fun hc2 => ?_) (fun hc2 => ?_)
    · skip
      exact absurd ((nI_ltI (by omega) (by omega)).mp hc2) (by omega)
    · skip
      have hc2 : ¬ sz < 1 := fun z9 => hc2 ((nI_ltI (by omega) (by omega)).mpr z9)
      refine pr_iload_n tX7_run_5 1 rfl ?_
      refine pr_iconst (v := nI 4) tX7_run_6 rfl ?_
      refine pr_ic_le (pc' := 12) tX7_run_7 rfl (fun hc7 => ?_) (fun hc7 => ?_)
      · skip
        have hc7 : sz ≤ 4 := (nI_leI (by omega) (by omega)).mp hc7
        refine pr_aload_n tX7_run_12 0 rfl ?_
        refine pr_geta (j := 8) tX7_run_13 rfl rfl rfl rfl ?_
        refine pr_aload_n tX7_run_16 0 rfl ?_
        refine pr_geta (j := 2) tX7_run_17 rfl rfl rfl rfl ?_
        refine pr_aload_n tX7_run_20 0 rfl ?_
        refine pr_geta (j := 1) tX7_run_21 rfl rfl rfl rfl ?_
        refine pr_iload_n tX7_run_24 1 rfl ?_
        refine pr_aload_n tX7_run_25 0 rfl ?_
        refine pr_get0 tX7_run_26 rfl rfl rfl ?_
        refine pR_topi (y := (nI bd)) (by simp [pm_ui, pm_uj, upd, vp_updL, hbd]) ?_
        refine pr_callV tX7_run_29 rfl ⟨Nat.le_of_ble_eq_true rfl, Nat.le_of_ble_eq_true rfl, rfl⟩ (ev_X6_open σ (sz := sz) (bd := bd)) ?_
        refine pR_eq (st' := []) rfl rfl ?_
        refine pr_aload_n tX7_run_32 0 rfl ?_
        refine pr_geta (j := 8) tX7_run_33 rfl rfl rfl rfl ?_
        refine pr_aload_n tX7_run_36 0 rfl ?_
        refine pr_geta (j := 2) tX7_run_37 rfl rfl rfl rfl ?_
        refine pr_iload_n tX7_run_40 2 rfl ?_
        refine pr_callV tX7_run_41 rfl ⟨Nat.le_of_ble_eq_true rfl, Nat.le_of_ble_eq_true rfl, rfl⟩ (hw) ?_
        refine pR_eq (st' := []) rfl rfl ?_
        refine pr_iconst (v := nI 0) tX7_run_44 rfl ?_
        refine pr_istore_n (L' := [(3, .inl (nI 0)), (0, .inr (.inr 0)), (1, .inl (nI sz)), (2, .inl u)]) tX7_run_45 (by decide) rfl ?_
        refine pR_sub (L' := [(3, .inl (nI 0)), (0, .inr (.inr 0))]) [0, 1] rfl ?_
        have z := lp_X7_run (ρ := ρ) h 32 0 (by omega)
        rw [lvJ_0] at z
        exact z
      · skip
        exact absurd ((nI_leI (by omega) (by omega)).mpr h4) hc7
  obtain ⟨x, h1, h2⟩ := key
  rw [h1, h2]

set_option maxRecDepth 100000 in
theorem ev_X7_run_out (σ : pST) {k u : Int32} (hk : k < nI 1 ∨ nI 4 < k) : kX7_run σ [.inr (.inr 0), .inl k, .inl u] = some ((σ, some (.inl (-1)))) := by
  have key : ∃ x, kX7_run σ [.inr (.inr 0), .inl k, .inl u] = some x ∧ x = (σ, some (.inl (-1))) := by
    refine pR_met (post := fun x => x = (σ, some (.inl (-1)))) rfl (Nat.le_of_ble_eq_true rfl) ?_
    show pR _ _ _ _ _ _ _ _ 0 [(0, .inr (.inr 0)), (1, .inl k), (2, .inl u)] [] σ
    refine pr_iload_n tX7_run_0 1 rfl ?_
    refine pr_iconst (v := nI 1) tX7_run_1 rfl ?_
    refine pr_ic_lt (pc' := 10) tX7_run_2 rfl (fun hc2 => ?_) (fun hc2 => ?_)
    · skip
      skip
      refine pr_iconst (v := -1) tX7_run_10 rfl ?_
      refine pr_iret tX7_run_11 rfl ?_
      rfl
    · skip
      skip
      refine pr_iload_n tX7_run_5 1 rfl ?_
      refine pr_iconst (v := nI 4) tX7_run_6 rfl ?_
      refine pr_ic_le (pc' := 12) tX7_run_7 rfl (fun hc7 => ?_) (fun hc7 => ?_)
      · skip
        exact absurd hk (fun z => z.elim hc2 (fun z => Int32.not_le.mpr z hc7))
      · skip
        skip
        refine pr_iconst (v := -1) tX7_run_10 rfl ?_
        refine pr_iret tX7_run_11 rfl ?_
        rfl
  obtain ⟨x, h1, h2⟩ := key
  rw [h1, h2]

set_option maxRecDepth 100000 in
theorem ev_X7_inOrder (σ : pST) {k : Nat} {ρ : pST} {T : TbS} (hk : k < 32) (hr : kX1_runOneByOne (opnB σ 153) [.inr (.inr 153), .inr (.inr 2)] = some (ρ, none)) (h : RXtb ρ 154 T 16) : kX7_inOrder σ [.inr (.inr 0), .inl (nI k)] = some ((ρ, some (.inr (.inl (vaT T k))))) := by
  have key : ∃ x, kX7_inOrder σ [.inr (.inr 0), .inl (nI k)] = some x ∧ x = (ρ, some (.inr (.inl (vaT T k)))) := by
    refine pR_met (post := fun x => x = (ρ, some (.inr (.inl (vaT T k))))) rfl (Nat.le_of_ble_eq_true rfl) ?_
    show pR _ _ _ _ _ _ _ _ 0 [(0, .inr (.inr 0)), (1, .inl (nI k))] [] σ
    refine pr_iload_n tX7_inOrder_0 1 rfl ?_
    refine pr_callS tX7_inOrder_1 rfl ⟨Nat.le_of_ble_eq_true rfl, Nat.le_of_ble_eq_true rfl, rfl⟩ (ev_X7_isLeaf_in σ hk) ?_
    refine pR_eq (st' := [.inl (nI 1)]) rfl rfl ?_
    refine pr_if_ne (pc' := 9) tX7_inOrder_4 rfl (fun hc4 => ?_) (fun hc4 => ?_)
    · skip
      refine pr_aload_n tX7_inOrder_9 0 rfl ?_
      refine pr_geta (j := 153) tX7_inOrder_10 rfl rfl rfl rfl ?_
      refine pr_aload_n tX7_inOrder_13 0 rfl ?_
      refine pr_geta (j := 2) tX7_inOrder_14 rfl rfl rfl rfl ?_
      refine pr_aload_n tX7_inOrder_17 0 rfl ?_
      refine pr_geta (j := 1) tX7_inOrder_18 rfl rfl rfl rfl ?_
      refine pr_callV tX7_inOrder_21 rfl ⟨Nat.le_of_ble_eq_true rfl, Nat.le_of_ble_eq_true rfl, rfl⟩ (ev_X1_open σ (b := 153) (Or.inr rfl)) ?_
      refine pR_eq (st' := []) rfl rfl ?_
      refine pr_aload_n tX7_inOrder_24 0 rfl ?_
      refine pr_geta (j := 153) tX7_inOrder_25 rfl rfl rfl rfl ?_
      refine pr_aload_n tX7_inOrder_28 0 rfl ?_
      refine pr_geta (j := 2) tX7_inOrder_29 rfl rfl rfl rfl ?_
      refine pr_callV tX7_inOrder_32 rfl ⟨Nat.le_of_ble_eq_true rfl, Nat.le_of_ble_eq_true rfl, rfl⟩ (hr) ?_
      refine pR_eq (st' := []) rfl rfl ?_
      refine pr_aload_n tX7_inOrder_35 0 rfl ?_
      refine pr_geta (j := 153) tX7_inOrder_36 rfl rfl rfl rfl ?_
      refine pr_geta (j := 154) tX7_inOrder_39 rfl rfl rfl rfl ?_
      refine pr_iload_n tX7_inOrder_42 1 rfl ?_
      refine pr_callV tX7_inOrder_43 rfl ⟨Nat.le_of_ble_eq_true rfl, Nat.le_of_ble_eq_true rfl, rfl⟩ (va_eq (t := 154) ⟨rfl, rfl, rfl, rfl, rfl⟩ h hk) ?_
      refine pR_eq (st' := [.inr (.inl (vaT T k))]) rfl rfl ?_
      refine pr_lret tX7_inOrder_46 rfl ?_
      rfl
    · skip
      exact absurd (by decide) hc4
  obtain ⟨x, h1, h2⟩ := key
  rw [h1, h2]

set_option maxRecDepth 100000 in
theorem ev_X7_inOrder_out (σ : pST) {k : Int32} (hk : k < 0 ∨ nI 32 ≤ k) : kX7_inOrder σ [.inr (.inr 0), .inl k] = some ((σ, some (.inr (.inl 0)))) := by
  have key : ∃ x, kX7_inOrder σ [.inr (.inr 0), .inl k] = some x ∧ x = (σ, some (.inr (.inl 0))) := by
    refine pR_met (post := fun x => x = (σ, some (.inr (.inl 0)))) rfl (Nat.le_of_ble_eq_true rfl) ?_
    show pR _ _ _ _ _ _ _ _ 0 [(0, .inr (.inr 0)), (1, .inl k)] [] σ
    refine pr_iload_n tX7_inOrder_0 1 rfl ?_
    refine pr_callS tX7_inOrder_1 rfl ⟨Nat.le_of_ble_eq_true rfl, Nat.le_of_ble_eq_true rfl, rfl⟩ (ev_X7_isLeaf_out σ hk) ?_
    refine pR_eq (st' := [.inl (nI 0)]) rfl rfl ?_
    refine pr_if_ne (pc' := 9) tX7_inOrder_4 rfl (fun hc4 => ?_) (fun hc4 => ?_)
    · skip
      exact absurd hc4 (by decide)
    · skip
      refine pr_lconst (v := 0) tX7_inOrder_7 rfl ?_
      refine pr_lret tX7_inOrder_8 rfl ?_
      rfl
  obtain ⟨x, h1, h2⟩ := key
  rw [h1, h2]

/-- the run of the class, plainly -/
theorem rx_run {σ : pST} {B : BkS} {sz bd : Nat} {bf : Nat → Int64} {x : Int32} (hB : BkOK B) (hops : B.n + sumN B.ac B.n ≤ 63) (h1 : 1 ≤ sz) (h4 : sz ≤ 4) (hb0 : 1 ≤ bd) (hb1 : bd ≤ 100) (hbk : RXbk σ B) (hs : ∀ c, c < 16 → σ.1 (16 + 8 * c) 0 = nI c) (hbf : ∀ k, k < 32 → σ.2 1 k = bf k) (hbd : σ.1 0 4 = nI bd) : ∃ T, T < 1000000 ∧ ((itS B bd (pkN x.toBitVec.toNat sz) (S0 bf) T).fe = true ∨ doneS B sz (itS B bd (pkN x.toBitVec.toNat sz) (S0 bf) T)) ∧ (∀ i, i < T → (itS B bd (pkN x.toBitVec.toNat sz) (S0 bf) i).fe = false ∧ ¬ doneS B sz (itS B bd (pkN x.toBitVec.toNat sz) (S0 bf) i)) ∧ ∃ ρ, kX7_run σ [.inr (.inr 0), .inl (nI sz), .inl x] = some (ρ, some (.inl (nI T))) ∧ RF ρ B.n (finS B (itS B bd (pkN x.toBitVec.toNat sz) (S0 bf) T)) T ∧ (∀ k, k < 32 → ρ.2 1 k = vaT (finS B (itS B bd (pkN x.toBitVec.toNat sz) (S0 bf) T)).T k) ∧ (∀ y, y ≤ 7 ∨ 153 ≤ y → ρ.1 y = σ.1 y) ∧ (∀ y, (2 ≤ y ∧ y ≤ 7) ∨ 153 ≤ y → ρ.2 y = σ.2 y) := by
  have hx : x.toBitVec.toNat < 4294967296 := x.toBitVec.isLt
  obtain ⟨T, t1, t2, t3⟩ := turns_end (S := S0 bf) hB hops (ti_0 (bd := bd) hb0) hb1 (fair hx h1 h4) rfl rfl (fun _ => rfl) (fun _ => rfl) (fun _ => rfl)
  refine ⟨T, t1, t2, t3, ?_⟩
  obtain ⟨r, tu, fr⟩ := rx_open (sz := sz) (bd := bd) hbk hs hbf
  obtain ⟨ρ, e, rf, fr2⟩ := rx_work (σ0 := σ) hB h1 h4 hb0 hb1 t1 t3 t2 (σ := opnW σ sz bd) (x := x) rfl ⟨r, sok_0, kok_0, fun _ => ti_0 hb0, Nat.le_refl _, tu, fr⟩
  have e2 := ev_X7_run σ h1 h4 hbd e rf.tb
  rw [rf.t] at e2
  refine ⟨_, e2, ?_, fun k hk => if_pos ⟨rfl, hk⟩, fun y hy => (fr2 y hy).1, fun y hy => ?_⟩
  · obtain ⟨q0, q1, q2, q3, q4, q5, q6, q7, q8, q9, q10, q11⟩ := rf
    exact ⟨q0, tb_c q1 fun x z1 z2 => ⟨rfl, lvJ_o (ge_ne z1 (by decide))⟩, fun c hc => ⟨a_c (q2 c hc).1 fun x z1 z2 => ⟨rfl, lvJ_o (ge_ne z1 (at_gt (by decide)))⟩, (q2 c hc).2⟩, q3, q4, q5, q6, q7, q8, q9, q10, q11⟩
  · show lvJ ρ.2 32 _ y = _
    rw [lvJ_o (by clear rf r e e2; omega)]
    exact (fr2 y (by clear rf r e e2; omega)).2
theorem rx_inOrder {σ : pST} {B : BkS} {bf : Nat → Int64} {k : Nat} (hB : BkOK B) (hk : k < 32) (hbk : RXbk σ B) (hs : ∀ c, c < 16 → σ.1 (160 + 8 * c) 0 = nI c) (hbf : ∀ k, k < 32 → σ.2 1 k = bf k) : ∃ ρ, kX7_inOrder σ [.inr (.inr 0), .inl (nI k)] = some (ρ, some (.inr (.inl (vaT (ordT B bf B.n) k)))) ∧ (∀ y, y < 153 → ρ.1 y = σ.1 y ∧ ρ.2 y = σ.2 y) ∧ (∀ c, c < 16 → ρ.1 (160 + 8 * c) 0 = nI c) := by
  have ox := opn_ox (σ := σ) (b := 153) (S := S0 bf) (by decide) hbk hs hbf (fun _ => rfl) (fun _ => rfl)
  obtain ⟨ρ, e, ho⟩ := rx_runOneByOne (σ := opnB σ 153) (b := 153) (Or.inr rfl) hB (by rw [opnB_n, hbk.n]) ox
  have tb := ox_tb hB.n ho fun k j hk hj h16 => opnB_st (by clear ox ho; omega)
  refine ⟨ρ, ev_X7_inOrder σ hk e tb, fun y hy => ?_, fun c hc => (ho.a c hc).s0⟩
  obtain ⟨p1, p2⟩ := ho.fr y (.inl hy)
  refine ⟨p1.trans ?_, p2.trans (opnB_2 (by clear ox ho; omega))⟩
  funext z
  exact opnB_o (by clear ox ho; omega) (by clear ox ho; omega) (by clear ox ho; omega)
