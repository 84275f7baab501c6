/-! ===== settle: groups ===== -/
theorem grM_z {I : Nat → Nat → Int32} {n y : Nat} {P : Nat → Nat} : grM I n P 0 y = I 0 y := if_neg (fun z => absurd z.1 (by decide))
theorem grM_u {I : Nat → Nat → Int32} {n y : Nat} {v : Int32} {P : Nat → Nat} : pm_ui (grM I n P) 0 y v = grM (pm_ui I 0 y v) n P := by
  funext x z
  rw [pm_ui_a]
  unfold grM
  by_cases e : x = 0 ∧ z = y
  · rw [if_pos e, if_neg (by omega), pm_ui_a, if_pos e]
  · rw [if_neg e, pm_ui_a, if_neg e]
theorem ui_u {I : Nat → Nat → Int32} {a k : Nat} {x y : Int32} : pm_ui (pm_ui I a k x) a k y = pm_ui I a k y := by
  funext u v
  rw [pm_ui_a, pm_ui_a, pm_ui_a]
  split <;> rfl
theorem grM_id {I : Nat → Nat → Int32} {n : Nat} (h : ∀ d, d < n → I 31 d = nI d) : grM I n (fun d => d) = I := by
  funext x y
  unfold grM
  by_cases q : x = 31 ∧ y < n
  · rw [if_pos q, q.1, h y q.2]
  · rw [if_neg q]

set_option maxRecDepth 100000 in
theorem lg_X8_settle {I : Nat → Nat → Int32} {J : Nat → Nat → Int64} {n : Nat} {am : Nat → AtS} (hn : n ≤ 16) (h39 : I 0 39 = nI n) (hA : ∀ d, d < n → RMat (I, J) d (am d)) (hok : ∀ d, d < n → AtOK d (am d)) {post : pRT → Prop} {k : Nat} {L : Nat → Nat} (hk : k < 32) (hL : ∀ d, d < n → L d ≤ d) (K : ∀ P, FRt P (tchL am n k L n).2 n → pR shM tX8_settle fX8_settle qX8_settle lX8_settle 6 0 post 334 [(1, .inl (nI k)), (0, .inr (.inr 0))] [] (grM I n P, J)) : ∀ (m i : Nat) (P : Nat → Nat), i + m = n → FRt P (tchL am n k L i).2 n → pR shM tX8_settle fX8_settle qX8_settle lX8_settle 6 0 post 254 [(3, .inl (nI i)), (2, .inl (oI (tchL am n k L i).1)), (1, .inl (nI k)), (0, .inr (.inr 0))] [] (grM I n P, J) := by
  intro m
  induction m with
  | zero =>
    intro i P hi hF
    refine pr_iload_n tX8_settle_254 0 rfl ?_
    refine pr_aload_n tX8_settle_255 3 rfl ?_
    refine pr_get0 tX8_settle_256 rfl rfl rfl ?_
    refine pR_topi (y := (nI n)) ((grM_z (I := I) (n := n) (P := P) (y := 39)).trans h39) ?_
    refine pr_ic_ge (pc' := 334) tX8_settle_259 rfl (fun hc259 => ?_) (fun hc259 => ?_)
    · skip
      have hc259 : n ≤ i := (nI_leI (by omega) (by omega)).mp hc259
      refine pR_sub (L' := [(1, .inl (nI k)), (0, .inr (.inr 0))]) [2, 3] rfl ?_
      have e8 : i = n := by omega
      rw [e8] at hF
      exact K P hF
    · skip
      exact absurd ((nI_leI (by omega) (by omega)).mpr (by omega)) hc259
  | succ m ih =>
    intro i P hi hF
    have hin : i < n := by omega
    have hi16 : i < 16 := by omega
    by_cases ht : touA (am i) k
    · cases ho : (tchL am n k L i).1 with
      | none =>
        have eT : tchL am n k L (i + 1) = (some i, (tchL am n k L i).2) := by
          show (if touA (am i) k then _ else _) = _
          rw [if_pos ht, ho]
        rw [← ho]
        have et : kX8_touches (grM I n P, J) [.inr (.inr 0), .inl (nI i), .inl (nI k)] = some ((grM I n P, J), some (.inl (nI 1))) := by
          rw [ev_X8_touches (grM I n P, J) (A := am i) hi16 hk (mat_c (hA i hin) fun x z1 z2 => ⟨grM_o (le_ne z2 (by decide)), rfl⟩) (hok i hin), show tcN (am i) k (am i).kn = 1 from (tcN_iff _).mpr ht]
        refine pr_iload_n tX8_settle_254 0 rfl ?_
        refine pr_aload_n tX8_settle_255 3 rfl ?_
        refine pr_get0 tX8_settle_256 rfl rfl rfl ?_
        refine pR_topi (y := (nI n)) ((grM_z (I := I) (n := n) (P := P) (y := 39)).trans h39) ?_
        refine pr_ic_ge (pc' := 334) tX8_settle_259 rfl (fun hc259 => ?_) (fun hc259 => ?_)
        · skip
          exact absurd ((nI_leI (by omega) (by omega)).mp hc259) (by omega)
        · skip
          have hc259 : ¬ n ≤ i := fun z9 => hc259 ((nI_leI (by omega) (by omega)).mpr z9)
          refine pr_aload_n tX8_settle_262 3 rfl ?_
          refine pr_iload_n tX8_settle_263 0 rfl ?_
          refine pr_iload_n tX8_settle_264 2 rfl ?_
          refine pr_callV tX8_settle_265 rfl ⟨Nat.le_of_ble_eq_true rfl, Nat.le_of_ble_eq_true rfl, rfl⟩ (et) ?_
          refine pR_eq (st' := [.inl (nI 1)]) rfl rfl ?_
          refine pr_if_eq (pc' := 328) tX8_settle_268 rfl (fun hc268 => ?_) (fun hc268 => ?_)
          · skip
            exact absurd hc268 (by decide)
          · skip
            refine pr_iload_n tX8_settle_271 1 rfl ?_
            refine pr_iconst (v := -1) tX8_settle_272 rfl ?_
            refine pr_ic_ne (pc' := 281) tX8_settle_273 rfl (fun hc273 => ?_) (fun hc273 => ?_)
            · skip
              exact absurd (by rw [ho]; rfl) hc273
            · skip
              skip
              refine pr_iload_n tX8_settle_276 0 rfl ?_
              refine pr_istore_n (L' := [(2, .inl (nI i)), (3, .inl (nI i)), (1, .inl (nI k)), (0, .inr (.inr 0))]) tX8_settle_277 (by decide) rfl ?_
              refine pr_goto (pc' := 328) tX8_settle_278 rfl ?_
              refine pr_iinc (v := (nI (i + 1))) (L' := [(3, .inl (nI (i + 1))), (2, .inl (nI i)), (1, .inl (nI k)), (0, .inr (.inr 0))]) tX8_settle_328 1 rfl (nI_1 _) (by decide) rfl ?_
              refine pr_goto (pc' := 254) tX8_settle_331 rfl ?_
              refine pR_sub (L' := [(3, .inl (nI (i + 1))), (2, .inl (oI (some i))), (1, .inl (nI k)), (0, .inr (.inr 0))]) [0, 1, 2, 3] rfl ?_
              have z := ih (i + 1) P (by omega) (by rw [eT]; exact hF)
              rw [eT] at z
              exact z
      | some f =>
        have hf := tchL_f i f ho
        have eT : tchL am n k L (i + 1) = (some f, joinL n (tchL am n k L i).2 ((tchL am n k L i).2 f) ((tchL am n k L i).2 i)) := by
          show (if touA (am i) k then _ else _) = _
          rw [if_pos ht, ho]
        rw [← ho]
        have hF2 := fr_join hF (show f < n by omega) hin
        have l1 := tchL_le (am := am) (n := n) (k := k) (L := L) i f
        have l2 := tchL_le (am := am) (n := n) (k := k) (L := L) i i
        have l3 := hL f (by omega)
        have l4 := hL i hin
        have et : kX8_touches (grM I n P, J) [.inr (.inr 0), .inl (nI i), .inl (nI k)] = some ((grM I n P, J), some (.inl (nI 1))) := by
          rw [ev_X8_touches (grM I n P, J) (A := am i) hi16 hk (mat_c (hA i hin) fun x z1 z2 => ⟨grM_o (le_ne z2 (by decide)), rfl⟩) (hok i hin), show tcN (am i) k (am i).kn = 1 from (tcN_iff _).mpr ht]
        by_cases hab : ((tchL am n k L i).2 f) < ((tchL am n k L i).2 i)
        · skip
          refine pr_iload_n tX8_settle_254 0 rfl ?_
          refine pr_aload_n tX8_settle_255 3 rfl ?_
          refine pr_get0 tX8_settle_256 rfl rfl rfl ?_
          refine pR_topi (y := (nI n)) ((grM_z (I := I) (n := n) (P := P) (y := 39)).trans h39) ?_
          refine pr_ic_ge (pc' := 334) tX8_settle_259 rfl (fun hc259 => ?_) (fun hc259 => ?_)
          · skip
            exact absurd ((nI_leI (by omega) (by omega)).mp hc259) (by omega)
          · skip
            have hc259 : ¬ n ≤ i := fun z9 => hc259 ((nI_leI (by omega) (by omega)).mpr z9)
            refine pr_aload_n tX8_settle_262 3 rfl ?_
            refine pr_iload_n tX8_settle_263 0 rfl ?_
            refine pr_iload_n tX8_settle_264 2 rfl ?_
            refine pr_callV tX8_settle_265 rfl ⟨Nat.le_of_ble_eq_true rfl, Nat.le_of_ble_eq_true rfl, rfl⟩ (et) ?_
            refine pR_eq (st' := [.inl (nI 1)]) rfl rfl ?_
            refine pr_if_eq (pc' := 328) tX8_settle_268 rfl (fun hc268 => ?_) (fun hc268 => ?_)
            · skip
              exact absurd hc268 (by decide)
            · skip
              refine pr_iload_n tX8_settle_271 1 rfl ?_
              refine pr_iconst (v := -1) tX8_settle_272 rfl ?_
              refine pr_ic_ne (pc' := 281) tX8_settle_273 rfl (fun hc273 => ?_) (fun hc273 => ?_)
              · skip
                skip
                refine pr_aload_n tX8_settle_281 3 rfl ?_
                refine pr_iload_n tX8_settle_282 1 rfl ?_
                refine pr_callV tX8_settle_283 rfl ⟨Nat.le_of_ble_eq_true rfl, Nat.le_of_ble_eq_true rfl, rfl⟩ (by rw [ho]; exact ev_X8_rootOf hn hF (c := f) (by omega)) ?_
                refine pR_eq (st' := [.inl (nI ((tchL am n k L i).2 f))]) rfl rfl ?_
                refine pr_istore (L' := [(4, .inl (nI ((tchL am n k L i).2 f))), (3, .inl (nI i)), (2, .inl (oI (tchL am n k L i).1)), (1, .inl (nI k)), (0, .inr (.inr 0))]) tX8_settle_286 (by decide) rfl ?_
                refine pr_aload_n tX8_settle_288 4 rfl ?_
                refine pr_iload_n tX8_settle_289 1 rfl ?_
                refine pr_callV tX8_settle_290 rfl ⟨Nat.le_of_ble_eq_true rfl, Nat.le_of_ble_eq_true rfl, rfl⟩ (ev_X8_rootOf hn hF (c := i) hin) ?_
                refine pR_eq (st' := [.inl (nI ((tchL am n k L i).2 i))]) rfl rfl ?_
                refine pr_istore (L' := [(5, .inl (nI ((tchL am n k L i).2 i))), (4, .inl (nI ((tchL am n k L i).2 f))), (3, .inl (nI i)), (2, .inl (oI (tchL am n k L i).1)), (1, .inl (nI k)), (0, .inr (.inr 0))]) tX8_settle_293 (by decide) rfl ?_
                refine pr_aload_n tX8_settle_295 5 rfl ?_
                refine pr_geta (j := 31) tX8_settle_296 rfl rfl rfl rfl ?_
                refine pr_iload tX8_settle_299 1 rfl ?_
                refine pr_iload tX8_settle_301 0 rfl ?_
                refine pr_ic_ge (pc' := 311) tX8_settle_303 rfl (fun hc303 => ?_) (fun hc303 => ?_)
                · skip
                  exact absurd ((nI_leI (by omega) (by omega)).mp hc303) (by omega)
                · skip
                  have hc303 : ¬ ((tchL am n k L i).2 i) ≤ ((tchL am n k L i).2 f) := fun z9 => hc303 ((nI_leI (by omega) (by omega)).mpr z9)
                  refine pr_iload tX8_settle_306 0 rfl ?_
                  refine pr_goto (pc' := 313) tX8_settle_308 rfl ?_
                  refine pr_iload tX8_settle_313 1 rfl ?_
                  refine pr_iload tX8_settle_315 0 rfl ?_
                  refine pr_ic_ge (pc' := 325) tX8_settle_317 rfl (fun hc317 => ?_) (fun hc317 => ?_)
                  · skip
                    exact absurd ((nI_leI (by omega) (by omega)).mp hc317) (by omega)
                  · skip
                    have hc317 : ¬ ((tchL am n k L i).2 i) ≤ ((tchL am n k L i).2 f) := fun z9 => hc317 ((nI_leI (by omega) (by omega)).mpr z9)
                    refine pr_iload tX8_settle_320 1 rfl ?_
                    refine pr_goto (pc' := 327) tX8_settle_322 rfl ?_
                    refine pr_ias tX8_settle_327 ((tchL am n k L i).2 i) rfl rfl (by omega) (by decide) ?_
                    obtain ⟨σ1, eσ1⟩ : ∃ z : pST, z = (pm_ui (grM I n P, J).1 31 ((tchL am n k L i).2 i) (nI ((tchL am n k L i).2 f)), (grM I n P, J).2) := ⟨_, rfl⟩
                    rw [← eσ1]
                    refine pr_iinc (v := (nI (i + 1))) (L' := [(3, .inl (nI (i + 1))), (5, .inl (nI ((tchL am n k L i).2 i))), (4, .inl (nI ((tchL am n k L i).2 f))), (2, .inl (oI (tchL am n k L i).1)), (1, .inl (nI k)), (0, .inr (.inr 0))]) tX8_settle_328 2 rfl (nI_1 _) (by decide) rfl ?_
                    refine pr_goto (pc' := 254) tX8_settle_331 rfl ?_
                    have e9 : σ1 = (grM I n (fup P (max ((tchL am n k L i).2 f) ((tchL am n k L i).2 i)) (min ((tchL am n k L i).2 f) ((tchL am n k L i).2 i))), J) := by
                      rw [eσ1, show max ((tchL am n k L i).2 f) ((tchL am n k L i).2 i) = ((tchL am n k L i).2 i) by omega, show min ((tchL am n k L i).2 f) ((tchL am n k L i).2 i) = ((tchL am n k L i).2 f) by omega]
                      exact Prod.ext (grM_s (by omega)) rfl
                    rw [e9]
                    refine pR_sub (L' := [(3, .inl (nI (i + 1))), (2, .inl (oI (tchL am n k L i).1)), (1, .inl (nI k)), (0, .inr (.inr 0))]) [0, 3, 4, 5] rfl ?_
                    rw [ho]
                    have z := ih (i + 1) (fup P (max ((tchL am n k L i).2 f) ((tchL am n k L i).2 i)) (min ((tchL am n k L i).2 f) ((tchL am n k L i).2 i))) (by omega) (by rw [eT]; exact hF2)
                    rw [eT] at z
                    exact z
              · skip
                exact absurd (Decidable.not_not.mp hc273) (by rw [ho]; exact oI_m1 (by omega))
        · skip
          refine pr_iload_n tX8_settle_254 0 rfl ?_
          refine pr_aload_n tX8_settle_255 3 rfl ?_
          refine pr_get0 tX8_settle_256 rfl rfl rfl ?_
          refine pR_topi (y := (nI n)) ((grM_z (I := I) (n := n) (P := P) (y := 39)).trans h39) ?_
          refine pr_ic_ge (pc' := 334) tX8_settle_259 rfl (fun hc259 => ?_) (fun hc259 => ?_)
          · skip
            exact absurd ((nI_leI (by omega) (by omega)).mp hc259) (by omega)
          · skip
            have hc259 : ¬ n ≤ i := fun z9 => hc259 ((nI_leI (by omega) (by omega)).mpr z9)
            refine pr_aload_n tX8_settle_262 3 rfl ?_
            refine pr_iload_n tX8_settle_263 0 rfl ?_
            refine pr_iload_n tX8_settle_264 2 rfl ?_
            refine pr_callV tX8_settle_265 rfl ⟨Nat.le_of_ble_eq_true rfl, Nat.le_of_ble_eq_true rfl, rfl⟩ (et) ?_
            refine pR_eq (st' := [.inl (nI 1)]) rfl rfl ?_
            refine pr_if_eq (pc' := 328) tX8_settle_268 rfl (fun hc268 => ?_) (fun hc268 => ?_)
            · skip
              exact absurd hc268 (by decide)
            · skip
              refine pr_iload_n tX8_settle_271 1 rfl ?_
              refine pr_iconst (v := -1) tX8_settle_272 rfl ?_
              refine pr_ic_ne (pc' := 281) tX8_settle_273 rfl (fun hc273 => ?_) (fun hc273 => ?_)
              · skip
                skip
                refine pr_aload_n tX8_settle_281 3 rfl ?_
                refine pr_iload_n tX8_settle_282 1 rfl ?_
                refine pr_callV tX8_settle_283 rfl ⟨Nat.le_of_ble_eq_true rfl, Nat.le_of_ble_eq_true rfl, rfl⟩ (by rw [ho]; exact ev_X8_rootOf hn hF (c := f) (by omega)) ?_
                refine pR_eq (st' := [.inl (nI ((tchL am n k L i).2 f))]) rfl rfl ?_
                refine pr_istore (L' := [(4, .inl (nI ((tchL am n k L i).2 f))), (3, .inl (nI i)), (2, .inl (oI (tchL am n k L i).1)), (1, .inl (nI k)), (0, .inr (.inr 0))]) tX8_settle_286 (by decide) rfl ?_
                refine pr_aload_n tX8_settle_288 4 rfl ?_
                refine pr_iload_n tX8_settle_289 1 rfl ?_
                refine pr_callV tX8_settle_290 rfl ⟨Nat.le_of_ble_eq_true rfl, Nat.le_of_ble_eq_true rfl, rfl⟩ (ev_X8_rootOf hn hF (c := i) hin) ?_
                refine pR_eq (st' := [.inl (nI ((tchL am n k L i).2 i))]) rfl rfl ?_
                refine pr_istore (L' := [(5, .inl (nI ((tchL am n k L i).2 i))), (4, .inl (nI ((tchL am n k L i).2 f))), (3, .inl (nI i)), (2, .inl (oI (tchL am n k L i).1)), (1, .inl (nI k)), (0, .inr (.inr 0))]) tX8_settle_293 (by decide) rfl ?_
                refine pr_aload_n tX8_settle_295 5 rfl ?_
                refine pr_geta (j := 31) tX8_settle_296 rfl rfl rfl rfl ?_
                refine pr_iload tX8_settle_299 1 rfl ?_
                refine pr_iload tX8_settle_301 0 rfl ?_
                refine pr_ic_ge (pc' := 311) tX8_settle_303 rfl (fun hc303 => ?_) (fun hc303 => ?_)
                · skip
                  have hc303 : ((tchL am n k L i).2 i) ≤ ((tchL am n k L i).2 f) := (nI_leI (by omega) (by omega)).mp hc303
                  refine pr_iload tX8_settle_311 1 rfl ?_
                  refine pr_iload tX8_settle_313 1 rfl ?_
                  refine pr_iload tX8_settle_315 0 rfl ?_
                  refine pr_ic_ge (pc' := 325) tX8_settle_317 rfl (fun hc317 => ?_) (fun hc317 => ?_)
                  · skip
                    have hc317 : ((tchL am n k L i).2 i) ≤ ((tchL am n k L i).2 f) := (nI_leI (by omega) (by omega)).mp hc317
                    refine pr_iload tX8_settle_325 0 rfl ?_
                    refine pr_ias tX8_settle_327 ((tchL am n k L i).2 f) rfl rfl (by omega) (by decide) ?_
                    obtain ⟨σ1, eσ1⟩ : ∃ z : pST, z = (pm_ui (grM I n P, J).1 31 ((tchL am n k L i).2 f) (nI ((tchL am n k L i).2 i)), (grM I n P, J).2) := ⟨_, rfl⟩
                    rw [← eσ1]
                    refine pr_iinc (v := (nI (i + 1))) (L' := [(3, .inl (nI (i + 1))), (5, .inl (nI ((tchL am n k L i).2 i))), (4, .inl (nI ((tchL am n k L i).2 f))), (2, .inl (oI (tchL am n k L i).1)), (1, .inl (nI k)), (0, .inr (.inr 0))]) tX8_settle_328 2 rfl (nI_1 _) (by decide) rfl ?_
                    refine pr_goto (pc' := 254) tX8_settle_331 rfl ?_
                    have e9 : σ1 = (grM I n (fup P (max ((tchL am n k L i).2 f) ((tchL am n k L i).2 i)) (min ((tchL am n k L i).2 f) ((tchL am n k L i).2 i))), J) := by
                      rw [eσ1, show max ((tchL am n k L i).2 f) ((tchL am n k L i).2 i) = ((tchL am n k L i).2 f) by omega, show min ((tchL am n k L i).2 f) ((tchL am n k L i).2 i) = ((tchL am n k L i).2 i) by omega]
                      exact Prod.ext (grM_s (by omega)) rfl
                    rw [e9]
                    refine pR_sub (L' := [(3, .inl (nI (i + 1))), (2, .inl (oI (tchL am n k L i).1)), (1, .inl (nI k)), (0, .inr (.inr 0))]) [0, 3, 4, 5] rfl ?_
                    rw [ho]
                    have z := ih (i + 1) (fup P (max ((tchL am n k L i).2 f) ((tchL am n k L i).2 i)) (min ((tchL am n k L i).2 f) ((tchL am n k L i).2 i))) (by omega) (by rw [eT]; exact hF2)
                    rw [eT] at z
                    exact z
                  · skip
                    exact absurd ((nI_leI (by omega) (by omega)).mpr (by omega)) hc317
                · skip
                  exact absurd ((nI_leI (by omega) (by omega)).mpr (by omega)) hc303
              · skip
                exact absurd (Decidable.not_not.mp hc273) (by rw [ho]; exact oI_m1 (by omega))
    · have eT : tchL am n k L (i + 1) = tchL am n k L i := by
        show (if touA (am i) k then _ else _) = _
        rw [if_neg ht]
      have et : kX8_touches (grM I n P, J) [.inr (.inr 0), .inl (nI i), .inl (nI k)] = some ((grM I n P, J), some (.inl (nI 0))) := by
        rw [ev_X8_touches (grM I n P, J) (A := am i) hi16 hk (mat_c (hA i hin) fun x z1 z2 => ⟨grM_o (le_ne z2 (by decide)), rfl⟩) (hok i hin), show tcN (am i) k (am i).kn = 0 from by have z := tcN_le (A := am i) (k := k) (am i).kn; have w : ¬ tcN (am i) k (am i).kn = 1 := fun q => ht ((tcN_iff _).mp q); omega]
      refine pr_iload_n tX8_settle_254 0 rfl ?_
      refine pr_aload_n tX8_settle_255 3 rfl ?_
      refine pr_get0 tX8_settle_256 rfl rfl rfl ?_
      refine pR_topi (y := (nI n)) ((grM_z (I := I) (n := n) (P := P) (y := 39)).trans h39) ?_
      refine pr_ic_ge (pc' := 334) tX8_settle_259 rfl (fun hc259 => ?_) (fun hc259 => ?_)
      · skip
        exact absurd ((nI_leI (by omega) (by omega)).mp hc259) (by omega)
      · skip
        have hc259 : ¬ n ≤ i := fun z9 => hc259 ((nI_leI (by omega) (by omega)).mpr z9)
        refine pr_aload_n tX8_settle_262 3 rfl ?_
        refine pr_iload_n tX8_settle_263 0 rfl ?_
        refine pr_iload_n tX8_settle_264 2 rfl ?_
        refine pr_callV tX8_settle_265 rfl ⟨Nat.le_of_ble_eq_true rfl, Nat.le_of_ble_eq_true rfl, rfl⟩ (et) ?_
        refine pR_eq (st' := [.inl (nI 0)]) rfl rfl ?_
        refine pr_if_eq (pc' := 328) tX8_settle_268 rfl (fun hc268 => ?_) (fun hc268 => ?_)
        · skip
          refine pr_iinc (v := (nI (i + 1))) (L' := [(3, .inl (nI (i + 1))), (2, .inl (oI (tchL am n k L i).1)), (1, .inl (nI k)), (0, .inr (.inr 0))]) tX8_settle_328 0 rfl (nI_1 _) (by decide) rfl ?_
          refine pr_goto (pc' := 254) tX8_settle_331 rfl ?_
          refine pR_sub (L' := [(3, .inl (nI (i + 1))), (2, .inl (oI (tchL am n k L i).1)), (1, .inl (nI k)), (0, .inr (.inr 0))]) [0, 1, 2, 3] rfl ?_
          have z := ih (i + 1) P (by omega) (by rw [eT]; exact hF)
          rw [eT] at z
          exact z
        · skip
          exact absurd (by decide) hc268

set_option maxRecDepth 100000 in
theorem lk_X8_settle {I : Nat → Nat → Int32} {J : Nat → Nat → Int64} {n : Nat} {am : Nat → AtS} (hn : n ≤ 16) (h39 : I 0 39 = nI n) (hA : ∀ d, d < n → RMat (I, J) d (am d)) (hok : ∀ d, d < n → AtOK d (am d)) {post : pRT → Prop} (K : ∀ P, FRt P (grpL am n 32) n → pR shM tX8_settle fX8_settle qX8_settle lX8_settle 6 0 post 340 [(0, .inr (.inr 0))] [] (grM I n P, J)) : ∀ (m i : Nat) (P : Nat → Nat), i + m = 32 → FRt P (grpL am n i) n → pR shM tX8_settle fX8_settle qX8_settle lX8_settle 6 0 post 244 [(1, .inl (nI i)), (0, .inr (.inr 0))] [] (grM I n P, J) := by
  intro m
  induction m with
  | zero =>
    intro i P hi hF
    refine pr_iload_n tX8_settle_244 0 rfl ?_
    refine pr_bipush (v := nI 32) tX8_settle_245 rfl ?_
    refine pr_ic_ge (pc' := 340) tX8_settle_247 rfl (fun hc247 => ?_) (fun hc247 => ?_)
    · skip
      have hc247 : 32 ≤ i := (nI_leI (by omega) (by omega)).mp hc247
      refine pR_sub (L' := [(0, .inr (.inr 0))]) [1] rfl ?_
      exact K P (by rw [show 32 = i by omega]; exact hF)
    · skip
      exact absurd ((nI_leI (by omega) (by omega)).mpr (by omega)) hc247
  | succ m ih =>
    intro i P hi hF
    refine pr_iload_n tX8_settle_244 0 rfl ?_
    refine pr_bipush (v := nI 32) tX8_settle_245 rfl ?_
    refine pr_ic_ge (pc' := 340) tX8_settle_247 rfl (fun hc247 => ?_) (fun hc247 => ?_)
    · skip
      exact absurd ((nI_leI (by omega) (by omega)).mp hc247) (by omega)
    · skip
      have hc247 : ¬ 32 ≤ i := fun z9 => hc247 ((nI_leI (by omega) (by omega)).mpr z9)
      refine pr_iconst (v := -1) tX8_settle_250 rfl ?_
      refine pr_istore_n (L' := [(2, .inl (-1)), (1, .inl (nI i)), (0, .inr (.inr 0))]) tX8_settle_251 (by decide) rfl ?_
      refine pr_iconst (v := nI 0) tX8_settle_252 rfl ?_
      refine pr_istore_n (L' := [(3, .inl (nI 0)), (2, .inl (-1)), (1, .inl (nI i)), (0, .inr (.inr 0))]) tX8_settle_253 (by decide) rfl ?_
      refine pR_sub (L' := [(3, .inl (nI 0)), (2, .inl (-1)), (1, .inl (nI i)), (0, .inr (.inr 0))]) [0, 1, 2, 3] rfl ?_
      refine lg_X8_settle hn h39 hA hok (k := i) (L := grpL am n i) (by omega) (fun d _ => grpL_le i d) (fun P' hP' => ?_) n 0 P (by omega) hF
      refine pr_iinc (v := (nI (i + 1))) (L' := [(1, .inl (nI (i + 1))), (0, .inr (.inr 0))]) tX8_settle_334 0 rfl (nI_1 _) (by decide) rfl ?_
      refine pr_goto (pc' := 244) tX8_settle_337 rfl ?_
      refine pR_sub (L' := [(1, .inl (nI (i + 1))), (0, .inr (.inr 0))]) [0, 1] rfl ?_
      exact ih (i + 1) P' (by omega) hP'

set_option maxRecDepth 100000 in
theorem lc_X8_settle {I : Nat → Nat → Int32} {J : Nat → Nat → Int64} {n : Nat} {P L : Nat → Nat} (hn : n ≤ 16) (h39 : I 0 39 = nI n) (hF : FRt P L n) {post : pRT → Prop} (K : pR shM tX8_settle fX8_settle qX8_settle lX8_settle 6 0 post 385 [(0, .inr (.inr 0))] [] (grM (pm_ui I 0 45 (nI (cntL L n))) n P, J)) : ∀ (m i : Nat), i + m = n → pR shM tX8_settle fX8_settle qX8_settle lX8_settle 6 0 post 347 [(1, .inl (nI i)), (0, .inr (.inr 0))] [] (grM (pm_ui I 0 45 (nI (cntL L i))) n P, J) := by
  intro m
  induction m with
  | zero =>
    intro i hi
    refine pr_iload_n tX8_settle_347 0 rfl ?_
    refine pr_aload_n tX8_settle_348 1 rfl ?_
    refine pr_get0 tX8_settle_349 rfl rfl rfl ?_
    refine pR_topi (y := (nI n)) ((grM_z (I := (pm_ui I 0 45 (nI (cntL L i)))) (n := n) (P := P) (y := 39)).trans (by simp [pm_ui_a, h39])) ?_
    refine pr_ic_ge (pc' := 385) tX8_settle_352 rfl (fun hc352 => ?_) (fun hc352 => ?_)
    · skip
      have hc352 : n ≤ i := (nI_leI (by omega) (by omega)).mp hc352
      refine pR_sub (L' := [(0, .inr (.inr 0))]) [1] rfl ?_
      rw [show i = n by omega]
      exact K
    · skip
      exact absurd ((nI_leI (by omega) (by omega)).mpr (by omega)) hc352
  | succ m ih =>
    intro i hi
    refine pr_iload_n tX8_settle_347 0 rfl ?_
    refine pr_aload_n tX8_settle_348 1 rfl ?_
    refine pr_get0 tX8_settle_349 rfl rfl rfl ?_
    refine pR_topi (y := (nI n)) ((grM_z (I := (pm_ui I 0 45 (nI (cntL L i)))) (n := n) (P := P) (y := 39)).trans (by simp [pm_ui_a, h39])) ?_
    refine pr_ic_ge (pc' := 385) tX8_settle_352 rfl (fun hc352 => ?_) (fun hc352 => ?_)
    · skip
      exact absurd ((nI_leI (by omega) (by omega)).mp hc352) (by omega)
    · skip
      have hc352 : ¬ n ≤ i := fun z9 => hc352 ((nI_leI (by omega) (by omega)).mpr z9)
      obtain ⟨p1, p2, p3, p4, p5⟩ := hF i (by omega)
      refine pr_aload_n tX8_settle_355 1 rfl ?_
      refine pr_dup tX8_settle_356 rfl ?_
      refine pr_get0 tX8_settle_357 rfl rfl rfl ?_
      refine pR_topi (y := (nI (cntL L i))) ((grM_z (I := (pm_ui I 0 45 (nI (cntL L i)))) (n := n) (P := P) (y := 45)).trans (by simp [pm_ui_a])) ?_
      refine pr_aload_n tX8_settle_360 1 rfl ?_
      refine pr_geta (j := 31) tX8_settle_361 rfl rfl rfl rfl ?_
      refine pr_iload_n tX8_settle_364 0 rfl ?_
      refine pr_ial tX8_settle_365 i rfl rfl (by omega) (by decide) ?_
      refine pR_topi (y := (nI (P i))) (grM_r (by omega)) ?_
      refine pr_iload_n tX8_settle_366 0 rfl ?_
      refine pr_ic_ne (pc' := 374) tX8_settle_367 rfl (fun hc367 => ?_) (fun hc367 => ?_)
      · skip
        have hc367 : ¬ (P i) = i := fun z9 => hc367 ((nI_eq (by omega) (by omega)).mpr z9)
        refine pr_iconst (v := nI 0) tX8_settle_374 rfl ?_
        refine pr_iadd (v := (nI (cntL L i + 0))) tX8_settle_375 (nI_add _ _) ?_
        refine pr_put0 tX8_settle_376 rfl rfl rfl ?_
        obtain ⟨σ1, eσ1⟩ : ∃ z : pST, z = (pm_ui (grM (pm_ui I 0 45 (nI (cntL L i))) n P, J).1 0 45 (nI (cntL L i + 0)), (grM (pm_ui I 0 45 (nI (cntL L i))) n P, J).2) := ⟨_, rfl⟩
        rw [← eσ1]
        refine pr_iinc (v := (nI (i + 1))) (L' := [(1, .inl (nI (i + 1))), (0, .inr (.inr 0))]) tX8_settle_379 0 rfl (nI_1 _) (by decide) rfl ?_
        refine pr_goto (pc' := 347) tX8_settle_382 rfl ?_
        have e9 : σ1 = (grM (pm_ui I 0 45 (nI (cntL L (i + 1)))) n P, J) := by
          rw [eσ1]
          refine Prod.ext (grM_u.trans ?_) rfl
          rw [ui_u]
          first
            | rw [show cntL L (i + 1) = cntL L i + 1 from by show cntL L i + (if L i = i then 1 else 0) = _; rw [if_pos (p5.mp hc367)]]
            | rw [show cntL L (i + 1) = cntL L i + 0 from by show cntL L i + (if L i = i then 1 else 0) = _; rw [if_neg (fun q => hc367 (p5.mpr q))]]
        rw [e9]
        refine pR_sub (L' := [(1, .inl (nI (i + 1))), (0, .inr (.inr 0))]) [0, 1] rfl ?_
        exact ih (i + 1) (by omega)
      · skip
        have hc367 : (P i) = i := (nI_eq (by omega) (by omega)).mp (Decidable.not_not.mp hc367)
        refine pr_iconst (v := nI 1) tX8_settle_370 rfl ?_
        refine pr_goto (pc' := 375) tX8_settle_371 rfl ?_
        refine pr_iadd (v := (nI (cntL L i + 1))) tX8_settle_375 (nI_add _ _) ?_
        refine pr_put0 tX8_settle_376 rfl rfl rfl ?_
        obtain ⟨σ2, eσ2⟩ : ∃ z : pST, z = (pm_ui (grM (pm_ui I 0 45 (nI (cntL L i))) n P, J).1 0 45 (nI (cntL L i + 1)), (grM (pm_ui I 0 45 (nI (cntL L i))) n P, J).2) := ⟨_, rfl⟩
        rw [← eσ2]
        refine pr_iinc (v := (nI (i + 1))) (L' := [(1, .inl (nI (i + 1))), (0, .inr (.inr 0))]) tX8_settle_379 0 rfl (nI_1 _) (by decide) rfl ?_
        refine pr_goto (pc' := 347) tX8_settle_382 rfl ?_
        have e9 : σ2 = (grM (pm_ui I 0 45 (nI (cntL L (i + 1)))) n P, J) := by
          rw [eσ2]
          refine Prod.ext (grM_u.trans ?_) rfl
          rw [ui_u]
          first
            | rw [show cntL L (i + 1) = cntL L i + 1 from by show cntL L i + (if L i = i then 1 else 0) = _; rw [if_pos (p5.mp hc367)]]
            | rw [show cntL L (i + 1) = cntL L i + 0 from by show cntL L i + (if L i = i then 1 else 0) = _; rw [if_neg (fun q => hc367 (p5.mpr q))]]
        rw [e9]
        refine pR_sub (L' := [(1, .inl (nI (i + 1))), (0, .inr (.inr 0))]) [0, 1] rfl ?_
        exact ih (i + 1) (by omega)

set_option maxRecDepth 100000 in
theorem lf_X8_settle {I : Nat → Nat → Int32} {J : Nat → Nat → Int64} {n : Nat} {L : Nat → Nat} (hn : n ≤ 16) (h39 : I 0 39 = nI n) {post : pRT → Prop} (K : ∀ P, (∀ d, d < n → P d = L d) → post ((grM I n P, J), none)) : ∀ (m i : Nat) (P : Nat → Nat), i + m = n → FRt P L n → (∀ d, d < i → P d = L d) → pR shM tX8_settle fX8_settle qX8_settle lX8_settle 6 0 post 387 [(1, .inl (nI i)), (0, .inr (.inr 0))] [] (grM I n P, J) := by
  intro m
  induction m with
  | zero =>
    intro i P hi hF hP
    refine pr_iload_n tX8_settle_387 0 rfl ?_
    refine pr_aload_n tX8_settle_388 1 rfl ?_
    refine pr_get0 tX8_settle_389 rfl rfl rfl ?_
    refine pR_topi (y := (nI n)) ((grM_z (I := I) (n := n) (P := P) (y := 39)).trans h39) ?_
    refine pr_ic_ge (pc' := 412) tX8_settle_392 rfl (fun hc392 => ?_) (fun hc392 => ?_)
    · skip
      have hc392 : n ≤ i := (nI_leI (by omega) (by omega)).mp hc392
      refine pr_ret tX8_settle_412 rfl ?_
      exact K P (fun d hd => hP d (by omega))
    · skip
      exact absurd ((nI_leI (by omega) (by omega)).mpr (by omega)) hc392
  | succ m ih =>
    intro i P hi hF hP
    refine pr_iload_n tX8_settle_387 0 rfl ?_
    refine pr_aload_n tX8_settle_388 1 rfl ?_
    refine pr_get0 tX8_settle_389 rfl rfl rfl ?_
    refine pR_topi (y := (nI n)) ((grM_z (I := I) (n := n) (P := P) (y := 39)).trans h39) ?_
    refine pr_ic_ge (pc' := 412) tX8_settle_392 rfl (fun hc392 => ?_) (fun hc392 => ?_)
    · skip
      exact absurd ((nI_leI (by omega) (by omega)).mp hc392) (by omega)
    · skip
      have hc392 : ¬ n ≤ i := fun z9 => hc392 ((nI_leI (by omega) (by omega)).mpr z9)
      refine pr_aload_n tX8_settle_395 1 rfl ?_
      refine pr_geta (j := 31) tX8_settle_396 rfl rfl rfl rfl ?_
      refine pr_iload_n tX8_settle_399 0 rfl ?_
      refine pr_aload_n tX8_settle_400 1 rfl ?_
      refine pr_iload_n tX8_settle_401 0 rfl ?_
      refine pr_callV tX8_settle_402 rfl ⟨Nat.le_of_ble_eq_true rfl, Nat.le_of_ble_eq_true rfl, rfl⟩ (ev_X8_rootOf hn hF (c := i) (by omega)) ?_
      refine pR_eq (st' := [.inl (nI (L i)), .inl (nI i), .inr (.inr 31)]) rfl rfl ?_
      refine pr_ias tX8_settle_405 i rfl rfl (by omega) (by decide) ?_
      obtain ⟨σ1, eσ1⟩ : ∃ z : pST, z = (pm_ui (grM I n P, J).1 31 i (nI (L i)), (grM I n P, J).2) := ⟨_, rfl⟩
      rw [← eσ1]
      refine pr_iinc (v := (nI (i + 1))) (L' := [(1, .inl (nI (i + 1))), (0, .inr (.inr 0))]) tX8_settle_406 0 rfl (nI_1 _) (by decide) rfl ?_
      refine pr_goto (pc' := 387) tX8_settle_409 rfl ?_
      have e9 : σ1 = (grM I n (fup P i (L i)), J) := by rw [eσ1]; exact Prod.ext (grM_s (by omega)) rfl
      rw [e9]
      refine pR_sub (L' := [(1, .inl (nI (i + 1))), (0, .inr (.inr 0))]) [0, 1] rfl ?_
      refine ih (i + 1) (fup P i (L i)) (by omega) (fr_flat hF (by omega)) (fun d hd => ?_)
      by_cases e : d = i
      · subst e; rw [fup_s]
      · rw [fup_n e]; exact hP d (by omega)
