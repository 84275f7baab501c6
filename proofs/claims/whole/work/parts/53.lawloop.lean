set_option maxHeartbeats 4000000 in
set_option maxRecDepth 100000 in
theorem law_loop {p : Program} {l : Launch} {e : Env} {s : State} {m : MethodId} {below : List Frame} {meth : Method} {c : Code} {D : va_G} {lx lm : Nat → Nat} {cy : Nat → ClassId} {b L : Nat} {xs : Nat → Int32} (hL : L ≤ 448) (C0 : lw_At p s m meth c b L xs) (hK : va_K D vwCl (pm_T cy) s) (hdis : ∀ i j, i < 288 → j < 44 → lx i ≠ lm j) {Inv : Nat → pST → pST → Prop} (hs : PureStep Inv) (hmono : ∀ j σ τ, Inv j σ τ → Inv (j + 1) σ τ) : ∀ (n j : Nat), j ≤ 64 → 64 - j < n → ∀ (σ τ : pST), Inv j σ τ → ∀ (H : Heap) (locs : List Loc), lw_I s D lx lm cy σ τ H locs → ∀ (ls : Array Slot), lv_has ls 4 [(0, .ref b), (1, .ref (lx 0)), (2, .ref (lm 0)), (3, .int (nI (7 * j)))] → W p l e room_1 s m #[Value.ref b] below meth c H locs 332 16134 (lw_Z below #[Value.ref b] s) (F0 m 18 ls []) := by
  obtain ⟨hx, hb, hr, hml, hown, hts, hX, hbl, hlocks, hgv⟩ := id C0
  have hA : ∀ q : Nat, s.heap.size ≤ q → (fun q : Nat => s.heap.size ≤ q) q := fun _ h => h
  have hbA : ¬ (fun q : Nat => s.heap.size ≤ q) b := Nat.not_le.mpr hbl
  intro n
  induction n with
  | zero => intro j _ h; exact absurd h (Nat.not_lt_zero _)
  | succ n ih =>
    intro j hj hn σ τ hInv H locs hI ls hl
    have hS := hI.2.2.2.2
    refine lv_iload_n hx hb dL_law_18 rfl (lv_at hl 3 rfl) ?_
    refine lv_aload_n hx hb dL_law_19 rfl (lv_at hl 0 rfl) ?_
    refine va_slen hx hb hX hbl hbA hS dL_law_20 ?_
    refine lv_bipush (v := nI 7) hx hb dL_law_21 rfl ?_
    refine lv_isub hx hb dL_law_23 ?_
    refine lv_icmp_gt (tgt := 547) hx hb dL_law_24 (by decide) (fun hc => ?_) (fun hc => ?_)
    · refine lv_iconst (v := 1) hx hb dL_law_547 rfl ?_
      refine va_forget (fun q hq => hS.2.2 q hq) ?_
      refine W.widen (k := 600000) (n := 7302250) (by decide) (by decide) ?_
      exact lw_ret hx hb hr hlocks dL_law_548
    · have hj7 : 7 * j + 7 ≤ L := by
        have h1 : (nI L - nI 7).toInt = (L : Int) - (7 : Nat) := pk_sub_toInt (by omega) (by decide)
        have h2 : (nI (7 * j)).toInt = ((7 * j : Nat) : Int) := nI_toInt (by omega)
        have h3 : ¬ (nI L - nI 7).toInt < (nI (7 * j)).toInt := fun z => hc (Int32.lt_iff_toInt_lt.mpr z)
        rw [h1, h2] at h3
        omega
      have tail : ∀ (σ τ : pST) (H : Heap) (locs : List Loc), Inv (j + 1) σ τ → lw_I s D lx lm cy σ τ H locs → W p l e room_1 s m #[Value.ref b] below meth c H locs 332 16134 (lw_Z below #[Value.ref b] s) (F0 m 541 ls []) := by
        intro σ τ H locs hInv hI
        refine lv_iinc (v := nI (7 * (j + 1))) (lv' := [(3, .int (nI (7 * (j + 1)))), (0, .ref b), (1, .ref (lx 0)), (2, .ref (lm 0))]) hx hb dL_law_541 hl (k := 3) rfl (nI_add (7 * j) 7) (by decide) rfl (fun ls hl => ?_)
        refine lv_goto (tgt := 18) hx hb dL_law_544 (by decide) ?_
        exact ih (j + 1) (by omega) (by omega) σ τ hInv H locs hI ls (lv_sub hl [1, 2, 3, 0] rfl)
      refine lv_aload_n hx hb dL_law_27 rfl (lv_at hl 0 rfl) ?_
      refine lv_iload_n hx hb dL_law_28 rfl (lv_at hl 3 rfl) ?_
      refine va_sld hx hb hX hbl hbA hS (vp_in_nI (show 7 * j < L by omega) (by omega)) dL_law_29 ?_
      rw [nI_clamp (show 7 * j < 2 ^ 31 by omega)]
      refine lv_bipush (v := nI 15) hx hb dL_law_30 rfl ?_
      refine lv_iand hx hb dL_law_32 ?_
      obtain ⟨k, hk, ek⟩ := pk_andE (xs (7 * j)) (m := nI 15) 4 (by decide)
      rw [ek]
      have hk16 : k < 16 := hk
      rcases (show k = 0 ∨ k = 1 ∨ k = 2 ∨ k = 3 ∨ k = 4 ∨ k = 5 ∨ k = 6 ∨ k = 7 ∨ k = 8 ∨ k = 9 ∨ k = 10 ∨ k = 11 ∨ k = 12 ∨ k = 13 ∨ k = 14 ∨ k = 15 by omega) with rfl | rfl | rfl | rfl | rfl | rfl | rfl | rfl | rfl | rfl | rfl | rfl | rfl | rfl | rfl | rfl
      · refine lv_tableIn (off := 71) (tgt := 104) hx hb dL_law_33 (by decide) (by decide) rfl (by decide) ?_
        obtain ⟨σ2, τ2, r, hfX, hfM, hT, hI2⟩ := hs j 0 σ τ (fun d => xs (7 * j + d)) (by omega) (by decide) hInv
        obtain ⟨z, rfl⟩ : ∃ z, r = .inl z := by simpa [opT] using hT
        exact law_op0 hL C0 hK hdis hj7 hfX hfM hI hl (fun H locs hI => tail σ2 τ2 H locs hI2 hI)
      · refine lv_tableIn (off := 84) (tgt := 117) hx hb dL_law_33 (by decide) (by decide) rfl (by decide) ?_
        obtain ⟨σ2, τ2, r, hfX, hfM, hT, hI2⟩ := hs j 1 σ τ (fun d => xs (7 * j + d)) (by omega) (by decide) hInv
        obtain ⟨z, rfl⟩ : ∃ z, r = .inl z := by simpa [opT] using hT
        exact law_op1 hL C0 hK hdis hj7 hfX hfM hI hl (fun H locs hI => tail σ2 τ2 H locs hI2 hI)
      · refine lv_tableIn (off := 179) (tgt := 212) hx hb dL_law_33 (by decide) (by decide) rfl (by decide) ?_
        obtain ⟨σ2, τ2, r, hfX, hfM, hT, hI2⟩ := hs j 2 σ τ (fun d => xs (7 * j + d)) (by omega) (by decide) hInv
        obtain ⟨z, rfl⟩ : ∃ z, r = .inl z := by simpa [opT] using hT
        exact law_op2 hL C0 hK hdis hj7 hfX hfM hI hl (fun H locs hI => tail σ2 τ2 H locs hI2 hI)
      · refine lv_tableIn (off := 192) (tgt := 225) hx hb dL_law_33 (by decide) (by decide) rfl (by decide) ?_
        obtain ⟨σ2, τ2, r, hfX, hfM, hT, hI2⟩ := hs j 3 σ τ (fun d => xs (7 * j + d)) (by omega) (by decide) hInv
        obtain ⟨z, rfl⟩ : ∃ z, r = .inl z := by simpa [opT] using hT
        exact law_op3 hL C0 hK hdis hj7 hfX hfM hI hl (fun H locs hI => tail σ2 τ2 H locs hI2 hI)
      · refine lv_tableIn (off := 255) (tgt := 288) hx hb dL_law_33 (by decide) (by decide) rfl (by decide) ?_
        obtain ⟨σ2, τ2, r, hfX, hfM, hT, hI2⟩ := hs j 4 σ τ (fun d => xs (7 * j + d)) (by omega) (by decide) hInv
        obtain ⟨z, rfl⟩ : ∃ z, r = .inl z := by simpa [opT] using hT
        exact law_op4 hL C0 hK hdis hj7 hfX hfM hI hl (fun H locs hI => tail σ2 τ2 H locs hI2 hI)
      · refine lv_tableIn (off := 278) (tgt := 311) hx hb dL_law_33 (by decide) (by decide) rfl (by decide) ?_
        obtain ⟨σ2, τ2, r, hfX, hfM, hT, hI2⟩ := hs j 5 σ τ (fun d => xs (7 * j + d)) (by omega) (by decide) hInv
        obtain ⟨z, rfl⟩ : ∃ z, r = .inl z := by simpa [opT] using hT
        exact law_op5 hL C0 hK hdis hj7 hfX hfM hI hl (fun H locs hI => tail σ2 τ2 H locs hI2 hI)
      · refine lv_tableIn (off := 311) (tgt := 344) hx hb dL_law_33 (by decide) (by decide) rfl (by decide) ?_
        obtain ⟨σ2, τ2, r, hfX, hfM, hT, hI2⟩ := hs j 6 σ τ (fun d => xs (7 * j + d)) (by omega) (by decide) hInv
        obtain ⟨z, rfl⟩ : ∃ z, r = .inr (.inl z) := by simpa [opT] using hT
        exact law_op6 hL C0 hK hdis hj7 hfX hfM hI hl (fun H locs hI => tail σ2 τ2 H locs hI2 hI)
      · refine lv_tableIn (off := 335) (tgt := 368) hx hb dL_law_33 (by decide) (by decide) rfl (by decide) ?_
        obtain ⟨σ2, τ2, r, hfX, hfM, hT, hI2⟩ := hs j 7 σ τ (fun d => xs (7 * j + d)) (by omega) (by decide) hInv
        obtain ⟨z, rfl⟩ : ∃ z, r = .inr (.inl z) := by simpa [opT] using hT
        exact law_op7 hL C0 hK hdis hj7 hfX hfM hI hl (fun H locs hI => tail σ2 τ2 H locs hI2 hI)
      · refine lv_tableIn (off := 359) (tgt := 392) hx hb dL_law_33 (by decide) (by decide) rfl (by decide) ?_
        obtain ⟨σ2, τ2, r, hfX, hfM, hT, hI2⟩ := hs j 8 σ τ (fun d => xs (7 * j + d)) (by omega) (by decide) hInv
        obtain ⟨z, rfl⟩ : ∃ z, r = .inl z := by simpa [opT] using hT
        exact law_op8 hL C0 hK hdis hj7 hfX hfM hI hl (fun H locs hI => tail σ2 τ2 H locs hI2 hI)
      · refine lv_tableIn (off := 372) (tgt := 405) hx hb dL_law_33 (by decide) (by decide) rfl (by decide) ?_
        obtain ⟨σ2, τ2, r, hfX, hfM, hT, hI2⟩ := hs j 9 σ τ (fun d => xs (7 * j + d)) (by omega) (by decide) hInv
        obtain ⟨z, rfl⟩ : ∃ z, r = .inr (.inl z) := by simpa [opT] using hT
        exact law_op9 hL C0 hK hdis hj7 hfX hfM hI hl (fun H locs hI => tail σ2 τ2 H locs hI2 hI)
      · refine lv_tableIn (off := 406) (tgt := 439) hx hb dL_law_33 (by decide) (by decide) rfl (by decide) ?_
        obtain ⟨σ2, τ2, r, hfX, hfM, hT, hI2⟩ := hs j 10 σ τ (fun d => xs (7 * j + d)) (by omega) (by decide) hInv
        obtain ⟨z, rfl⟩ : ∃ z, r = .inl z := by simpa [opT] using hT
        exact law_op10 hL C0 hK hdis hj7 hfX hfM hI hl (fun H locs hI => tail σ2 τ2 H locs hI2 hI)
      · refine lv_tableIn (off := 439) (tgt := 472) hx hb dL_law_33 (by decide) (by decide) rfl (by decide) ?_
        obtain ⟨σ2, τ2, r, hfX, hfM, hT, hI2⟩ := hs j 11 σ τ (fun d => xs (7 * j + d)) (by omega) (by decide) hInv
        obtain ⟨z, rfl⟩ : ∃ z, r = .inl z := by simpa [opT] using hT
        exact law_op11 hL C0 hK hdis hj7 hfX hfM hI hl (fun H locs hI => tail σ2 τ2 H locs hI2 hI)
      · refine lv_tableIn (off := 452) (tgt := 485) hx hb dL_law_33 (by decide) (by decide) rfl (by decide) ?_
        obtain ⟨σ2, τ2, r, hfX, hfM, hT, hI2⟩ := hs j 12 σ τ (fun d => xs (7 * j + d)) (by omega) (by decide) hInv
        obtain ⟨z, rfl⟩ : ∃ z, r = .inl z := by simpa [opT] using hT
        exact law_op12 hL C0 hK hdis hj7 hfX hfM hI hl (fun H locs hI => tail σ2 τ2 H locs hI2 hI)
      · refine lv_tableIn (off := 485) (tgt := 518) hx hb dL_law_33 (by decide) (by decide) rfl (by decide) ?_
        obtain ⟨σ2, τ2, r, hfX, hfM, hT, hI2⟩ := hs j 13 σ τ (fun d => xs (7 * j + d)) (by omega) (by decide) hInv
        obtain ⟨z, rfl⟩ : ∃ z, r = .inl z := by simpa [opT] using hT
        exact law_op13 hL C0 hK hdis hj7 hfX hfM hI hl (fun H locs hI => tail σ2 τ2 H locs hI2 hI)
      · refine lv_tableOut (tgt := 541) hx hb dL_law_33 (Or.inr (by decide)) (by decide) ?_
        exact tail σ τ H locs (hmono j σ τ hInv) hI
      · refine lv_tableOut (tgt := 541) hx hb dL_law_33 (Or.inr (by decide)) (by decide) ?_
        exact tail σ τ H locs (hmono j σ τ hInv) hI
set_option maxRecDepth 100000 in
theorem clI_X7 (l : Launch) : dm_Cal l wsL_law nX7_init room_1 RL 9 (1, 1, kX7_init, 287, 8772) := ⟨yX7_init, wsX7_init, _, nX7_init, mX7_init, cX7_init, 1, conX7_init l, dm_met_prop, ggL_law_X7_init, rfl, rfl, rfl, by decide +kernel, by decide +kernel, rfl, by decide +kernel, by decide, List.forall_mem_cons.mpr ⟨⟨by decide +kernel, dm_mvN⟩, List.forall_mem_cons.mpr ⟨⟨by decide +kernel, dm_mvN⟩, List.forall_mem_cons.mpr ⟨⟨by decide +kernel, dm_mvA⟩, List.forall_mem_cons.mpr ⟨⟨by decide +kernel, dm_mvN⟩, List.forall_mem_cons.mpr ⟨⟨by decide +kernel, dm_mvN⟩, fun _ h => absurd h List.not_mem_nil⟩⟩⟩⟩⟩, (by decide +kernel : Cond.methodLink RL 9 yX7_init ∈ wsL_law)⟩
set_option maxRecDepth 100000 in
theorem clI_X8 (l : Launch) : dm_Cal l wsL_law nX8_init room_1 RL 12 (1, 1, kX8_init, 43, 7296) := ⟨yX8_init, wsX8_init, _, nX8_init, mX8_init, cX8_init, 1, conX8_init l, dm_met_prop, ggL_law_X8_init, rfl, rfl, rfl, by decide +kernel, by decide +kernel, rfl, by decide +kernel, by decide, fun _ h => absurd h List.not_mem_nil, (by decide +kernel : Cond.methodLink RL 12 yX8_init ∈ wsL_law)⟩
theorem nwL_X7 : dm_nwok wsL_law RL 7 6 := ⟨(RX7, TX7, 5), rfl, by decide +kernel, by decide +kernel, by decide +kernel, inlX7⟩
theorem nwL_X8 : dm_nwok wsL_law RL 10 7 := ⟨(RX8, TX8, 61), rfl, by decide +kernel, by decide +kernel, by decide +kernel, inlX8⟩
set_option maxRecDepth 100000 in
theorem nsL_0 : Cond.methodLinkNest RX7 15 yX2_init "ParallelUndo" ∈ lw_tbl := by decide +kernel
set_option maxRecDepth 100000 in
theorem nsL_1 : Cond.methodLinkNest RX1 11 yX5_init "ParallelUndo" ∈ lw_tbl := by decide +kernel
set_option maxRecDepth 100000 in
theorem nsL_2 : Cond.arrayOver (.object RX0) ∈ lw_tbl := by decide +kernel
set_option maxRecDepth 100000 in
theorem nsL_3 : Cond.methodLinkNest RX6 20 yX3_init "ParallelUndo" ∈ lw_tbl := by decide +kernel
set_option maxRecDepth 100000 in
theorem nsL_4 : Cond.methodLinkNest RX7 22 yX6_init "ParallelUndo" ∈ lw_tbl := by decide +kernel
set_option maxRecDepth 100000 in
theorem insL_X0 : Cond.instantiable RX0 18 ∈ lw_tbl := by decide +kernel
set_option maxRecDepth 100000 in
theorem insL_X1 : Cond.instantiable RX1 3 ∈ lw_tbl := by decide +kernel
set_option maxRecDepth 100000 in
theorem insL_X2 : Cond.instantiable RX2 6 ∈ lw_tbl := by decide +kernel
set_option maxRecDepth 100000 in
theorem insL_X3 : Cond.instantiable RX3 3 ∈ lw_tbl := by decide +kernel
set_option maxRecDepth 100000 in
theorem insL_X5 : Cond.instantiable RX5 4 ∈ lw_tbl := by decide +kernel
set_option maxRecDepth 100000 in
theorem insL_X6 : Cond.instantiable RX6 17 ∈ lw_tbl := by decide +kernel
set_option maxRecDepth 100000 in
theorem insL_X7 : Cond.instantiable RX7 5 ∈ lw_tbl := by decide +kernel
set_option maxRecDepth 100000 in
theorem insL_X8 : Cond.instantiable RX8 61 ∈ lw_tbl := by decide +kernel
set_option maxRecDepth 100000 in
theorem arrL_int : Cond.arrayClass .int ∈ lw_tbl := by decide +kernel
set_option maxRecDepth 100000 in
theorem arrL_long : Cond.arrayClass .long ∈ lw_tbl := by decide +kernel
set_option maxRecDepth 100000 in
theorem arrL_boolean : Cond.arrayClass .boolean ∈ lw_tbl := by decide +kernel
set_option maxHeartbeats 4000000 in
set_option maxRecDepth 100000 in
/-- the law, from its entry, out of the pure statement -/
theorem whole_of {Inv : Nat → pST → pST → Prop} (hs : PureStep Inv) (hmono : ∀ j σ τ, Inv j σ τ → Inv (j + 1) σ τ) (hI0 : Inv 0 sX0 sM0) {p : Program} {e : Env} {s : State} {m : MethodId} {below : List Frame} {meth : Method} {c : Code} (l : Launch) {b L : Nat} {xs : Nat → Int32} (hL : L ≤ 448) (C0 : lw_At p s m meth c b L xs) : W p l e room_1 s m #[Value.ref b] below meth c s.heap [] 0 0 (lw_Z below #[Value.ref b] s) (entryFrame m ([Value.ref b] : List Value).toArray 4) := by
  obtain ⟨hx, hb, hr, hml, hown, hts, hX, hbl, hlocks, hgv⟩ := id C0
  have hA : ∀ q : Nat, s.heap.size ≤ q → (fun q : Nat => s.heap.size ≤ q) q := fun _ h => h
  have hts9 : ∀ w ∈ wsL_law, w.before #[Value.ref b] s = true := fun w h => hts w (wsL_law_in w h)
  obtain ⟨c0, iS0, hKn0⟩ := u_known (C := RX0) (T := TX0) (N := 18) (n := 18) hts wsX00_in (hts _ insL_X0)
  obtain ⟨c1, iS1, hKn1⟩ := u_known (C := RX1) (T := TX1) (N := 3) (n := 3) hts wsX10_in (hts _ insL_X1)
  obtain ⟨c2, iS2, hKn2⟩ := u_known (C := RX2) (T := TX2) (N := 6) (n := 6) hts wsX20_in (hts _ insL_X2)
  obtain ⟨c3, iS3, hKn3⟩ := u_known (C := RX3) (T := TX3) (N := 3) (n := 3) hts wsX30_in (hts _ insL_X3)
  obtain ⟨c4, iS4, hKn4⟩ := u_known (C := RX5) (T := TX5) (N := 4) (n := 4) hts wsX50_in (hts _ insL_X5)
  obtain ⟨c5, iS5, hKn5⟩ := u_known (C := RX6) (T := TX6) (N := 17) (n := 17) hts wsX60_in (hts _ insL_X6)
  obtain ⟨c6, iS6, hKn6⟩ := u_known (C := RX7) (T := TX7) (N := 5) (n := 5) hts wsX70_in (hts _ insL_X7)
  obtain ⟨c7, iS7, hKn7⟩ := u_known (C := RX8) (T := TX8) (N := 61) (n := 61) hts wsX80_in (hts _ insL_X8)
  obtain ⟨D, hKc⟩ : ∃ D : va_G, ∀ (k : Nat) (q : vw_C), vwCl[k]? = some q → u_Kn s q.1 q.2.1 q.2.2 (D.1 k) (D.2 k) := by
    refine ⟨(fun k => if k = 0 then c0 else if k = 1 then c1 else if k = 2 then c2 else if k = 3 then c3 else if k = 4 then c4 else if k = 5 then c5 else if k = 6 then c6 else c7, fun k => if k = 0 then iS0 else if k = 1 then iS1 else if k = 2 then iS2 else if k = 3 then iS3 else if k = 4 then iS4 else if k = 5 then iS5 else if k = 6 then iS6 else iS7), ?_⟩
    intro k q hq
    match k, hq with
    | 0, hq => cases hq; exact hKn0
    | 1, hq => cases hq; exact hKn1
    | 2, hq => cases hq; exact hKn2
    | 3, hq => cases hq; exact hKn3
    | 4, hq => cases hq; exact hKn4
    | 5, hq => cases hq; exact hKn5
    | 6, hq => cases hq; exact hKn6
    | 7, hq => cases hq; exact hKn7
    | k + 8, hq => simp at hq
  obtain ⟨cI, kI, pI, i1, i2, i3⟩ := Cond.arrayClass_spec (hts _ arrL_int)
  obtain ⟨cJ, kJ, pJ, j1, j2, j3⟩ := Cond.arrayClass_spec (hts _ arrL_long)
  obtain ⟨cZ, kZ, pZ, z1, z2, z3⟩ := Cond.arrayClass_spec (hts _ arrL_boolean)
  obtain ⟨pA, cA, kA, a1, -, a3, a4, a5⟩ := Cond.arrayOver_spec (hts _ nsL_2)
  obtain ⟨cy, hcy⟩ : ∃ cy : Nat → ClassId, pm_T cy = [(cI, .int), (cJ, .long), (cZ, .boolean), (cA, .object RX0)] := ⟨fun i => if i = 0 then cI else if i = 1 then cJ else if i = 2 then cZ else cA, rfl⟩
  have hK : va_K D vwCl (pm_T cy) s := by
    refine ⟨hKc, ?_⟩
    rw [hcy]
    intro k q hq
    match k, hq with
    | 0, hq => cases hq; exact ⟨fun n z => ⟨fun k h => (by cases h), kI, i2, pI, i3⟩, i1⟩
    | 1, hq => cases hq; exact ⟨fun n z => ⟨fun k h => (by cases h), kJ, j2, pJ, j3⟩, j1⟩
    | 2, hq => cases hq; exact ⟨fun n z => ⟨fun k h => (by cases h), kZ, z2, pZ, z3⟩, z1⟩
    | 3, hq => cases hq; exact ⟨fun n z => ⟨fun k h => (by cases h), kA, a3, pA, a4⟩, kA, pA, a3, a4, a1, a5⟩
    | k + 4, hq => simp at hq
  have hS : va_S (fun q : Nat => s.heap.size ≤ q) s.heap s.heap [] := va_S.rf
  have hP : va_P D vwCl (dm_W (fun _ => 0) cy []) s.heap := fun k q h => by simp [dm_W] at h
  have hD : va_D (fun q : Nat => s.heap.size ≤ q) (dm_W (fun _ => 0) cy []) := ⟨fun i j p q h => by simp [dm_W] at h, fun k q h => by simp [dm_W] at h⟩
  have hl := lv_entry ([.ref b]) (n := 4) (Nat.le_of_ble_eq_true rfl)
  rw [lg_entry_eq]
  generalize (lg_sl ([.ref b]) ++ List.replicate (4 - (lg_sl ([.ref b])).length) Slot.unset).toArray = ls at hl ⊢
  have hl : lv_has ls 4 [(0, .ref b)] := hl
  obtain ⟨cs, cs2, m1, m2, m0, m3, m4, m5, m6⟩ := made
  have hns : ∀ w ∈ nX7_init, va_Nw w s ∧ dm_sm w := List.forall_mem_cons.mpr ⟨⟨va_Nw.of rfl (hts _ nsL_0), dm_smN⟩, List.forall_mem_cons.mpr ⟨⟨va_Nw.of rfl (hts _ nsL_1), dm_smN⟩, List.forall_mem_cons.mpr ⟨⟨hts _ nsL_2, dm_smA⟩, List.forall_mem_cons.mpr ⟨⟨va_Nw.of rfl (hts _ nsL_3), dm_smN⟩, List.forall_mem_cons.mpr ⟨⟨va_Nw.of rfl (hts _ nsL_4), dm_smN⟩, fun _ h => absurd h List.not_mem_nil⟩⟩⟩⟩⟩
  refine lw_make (cs := []) (cs' := cs) (ci := 6) (f := kX7_init) (a := 1) (c1 := 287) (s1 := 8772) (idx := 7) (idx2 := 9) hx hb hml hown hts9 hK hA hns nwL_X7 (clI_X7 l) rfl dL_law_0 dL_law_3 dL_law_4 rfl m1 hl.1 (by decide) (by decide) (by decide) hP hD hS (fun H1 locs1 lay1 _ hP1 hD1 hS1 => ?_)
  refine lv_astore_n (lv' := [(1, .ref (lay1 0)), (0, .ref b)]) hx hb dL_law_7 rfl hl (by decide) rfl (fun ls hl => ?_)
  refine lw_make (cs := cs) (cs' := cs2) (ci := 7) (f := kX8_init) (a := 1) (c1 := 43) (s1 := 7296) (idx := 10) (idx2 := 12) (Ns := nX8_init) hx hb hml hown hts9 hK hA (fun _ h => absurd h List.not_mem_nil) nwL_X8 (clI_X8 l) rfl dL_law_8 dL_law_11 dL_law_12 m0 (by rw [m2]; exact m3) hl.1 (by decide) (by decide) (by decide) hP1 hD1 hS1 (fun H2 locs2 lay2 hlay hP2 hD2 hS2 => ?_)
  rw [m2] at hlay ⊢
  rw [← hlay 0 (by decide)] at hl
  refine lv_astore_n (lv' := [(2, .ref (lay2 288)), (1, .ref (lay2 0)), (0, .ref b)]) hx hb dL_law_15 rfl hl (by decide) rfl (fun ls hl => ?_)
  refine lv_iconst (v := nI 0) hx hb dL_law_16 rfl ?_
  refine lv_istore_n (lv' := [(3, .int (nI 0)), (2, .ref (lay2 288)), (1, .ref (lay2 0)), (0, .ref b)]) hx hb dL_law_17 rfl hl (by decide) rfl (fun ls hl => ?_)
  refine W.widen (k := 332) (n := 16134) (by decide) (by decide) ?_
  refine law_loop (D := D) (lx := fun j => lay2 (0 + j)) (lm := fun j => lay2 (288 + j)) (cy := cy) hL C0 hK (fun i j hi hj h => ?_) hs hmono 65 0 (by decide) (by decide) sX0 sM0 hI0 H2 locs2 ⟨dm_toP (by rw [m4]; decide) m5 (fun _ _ => rfl) sX0_z hP2, dm_toP (by rw [m4]; decide) m6 (fun _ _ => rfl) sM0_z hP2, dm_toD (by rw [m4]; decide) hD2, dm_toD (by rw [m4]; decide) hD2, hS2⟩ ls (lv_sub hl [3, 2, 1, 0] rfl)
  have := dm_inj hD2 (i := 0 + i) (j := 288 + j) (by rw [m4]; omega) (by rw [m4]; omega) h
  omega
