/-! ===== the law's loop ===== -/
def lw_I (s : State) (D : va_G) (lx lm : Nat → Nat) (cy : Nat → ClassId) (σ τ : pST) (H : Heap) (locs : List Loc) : Prop := va_P D vwCl (pm_W lx cy shX 288 σ) H ∧ va_P D vwCl (pm_W lm cy shM 44 τ) H ∧ va_D (fun q : Nat => s.heap.size ≤ q) (pm_W lx cy shX 288 σ) ∧ va_D (fun q : Nat => s.heap.size ≤ q) (pm_W lm cy shM 44 τ) ∧ va_S (fun q : Nat => s.heap.size ≤ q) s.heap H locs
theorem lw_keep {D : va_G} {lay lay2 : Nat → Nat} {cy : Nat → ClassId} {sh sh2 : pSH} {N N2 : Nat} {σ τ : pST} {H H1 : Heap} (hdis : ∀ i j, i < N → j < N2 → lay i ≠ lay2 j) (hP : va_P D vwCl (pm_W lay2 cy sh2 N2 τ) H) (hk : ∀ q, q < H.size → ¬ va_A (pm_W lay cy sh N σ) H.size q → H1[q]? = H[q]?) : va_P D vwCl (pm_W lay2 cy sh2 N2 τ) H1 := by
  refine hP.kept (fun k q hq => ?_)
  have hkN : k < N2 := by
    have := (List.getElem?_eq_some_iff.mp hq).1
    rw [pm_W_len] at this
    exact this
  have hlt := (hP k q hq).lt
  refine hk q.1 hlt ?_
  rintro (⟨k2, e2, h⟩ | h)
  · have hk2 : k2 < N := by
      have := (List.getElem?_eq_some_iff.mp h).1
      rw [pm_W_len] at this
      exact this
    rw [pm_W_get hk2] at h
    rw [pm_W_get hkN] at hq
    cases hq
    exact hdis k2 k hk2 hkN (congrArg (fun z => z.1) (Option.some.inj h))
  · omega
set_option maxHeartbeats 4000000 in
set_option maxRecDepth 100000 in
theorem law_op0 {p : Program} {l : Launch} {e : Env} {s : State} {m : MethodId} {below : List Frame} {meth : Method} {c : Code} {D : va_G} {lx lm : Nat → Nat} {cy : Nat → ClassId} {b L : Nat} {xs : Nat → Int32} (hL : L ≤ 448) (C0 : lw_At p s m meth c b L xs) (hK : va_K D vwCl (pm_T cy) s) (hdis : ∀ i j, i < 288 → j < 44 → lx i ≠ lm j) {j : Nat} (hj : 7 * j + 7 ≤ L) {σ τ σ' τ' : pST} {z : Int32} (hfX : kX7_call σ (.inr (.inr 0) :: opA 0 (fun d => xs (7 * j + d))) = some (σ', some (.inl z))) (hfM : kX8_call τ (.inr (.inr 0) :: opA 0 (fun d => xs (7 * j + d))) = some (τ', some (.inl z))) {H : Heap} {locs : List Loc} (hI : lw_I s D lx lm cy σ τ H locs) {ls : Array Slot} (hl : lv_has ls 4 [(0, .ref b), (1, .ref (lx 0)), (2, .ref (lm 0)), (3, .int (nI (7 * j)))]) (K : ∀ H locs, lw_I s D lx lm cy σ' τ' H locs → W p l e room_1 s m #[Value.ref b] below meth c H locs 332 16134 (lw_Z below #[Value.ref b] s) (F0 m 541 ls [])) : W p l e room_1 s m #[Value.ref b] below meth c H locs 332 16134 (lw_Z below #[Value.ref b] s) (F0 m 104 ls []) := by
  obtain ⟨hx, hb, hr, hml, hown, hts, hX, hbl, hlocks, hgv⟩ := C0
  have hA : ∀ q : Nat, s.heap.size ≤ q → (fun q : Nat => s.heap.size ≤ q) q := fun _ h => h
  have hbA : ¬ (fun q : Nat => s.heap.size ≤ q) b := Nat.not_le.mpr hbl
  have hts9 : ∀ w ∈ wsL_law, w.before #[Value.ref b] s = true := fun w h => hts w (wsL_law_in w h)
  obtain ⟨hPX, hPM, hDX, hDM, hS⟩ := hI
  refine lv_aload_n hx hb dL_law_104 rfl (lv_at hl 1 rfl) ?_
  refine lw_call (lay := lx) (i := 0) (vs' := opA 0 (fun d => xs (7 * j + d))) (rest := []) hx hb hml hown hts9 hK shX_N hA (cl_X7_call l) dL_law_105 hfX rfl hl.1 (Nat.le_of_ble_eq_true rfl) (by decide) (by decide) hPX hDX hS (fun H1 locs1 hP1 hD1 hS1 hk1 => ?_)
  have hPM := lw_keep hdis hPM hk1
  generalize H1 = H at hP1 hS1 hPM ⊢
  generalize locs1 = locs at hS1 ⊢
  have hPX := hP1
  have hDX := hD1
  have hS := hS1
  show W p l e room_1 s m #[Value.ref b] below meth c H locs 332 16134 (lw_Z below #[Value.ref b] s) (F0 m 108 ls [.int z])
  refine lv_aload_n hx hb dL_law_108 rfl (lv_at hl 2 rfl) ?_
  refine lw_call (lay := lm) (i := 0) (vs' := opA 0 (fun d => xs (7 * j + d))) (rest := [.int z]) hx hb hml hown hts9 hK shM_N hA (cl_X8_call l) dL_law_109 hfM rfl hl.1 (Nat.le_of_ble_eq_true rfl) (by decide) (by decide) hPM hDM hS (fun H1 locs1 hP1 hD1 hS1 hk1 => ?_)
  have hPX := lw_keep (fun i j hi hj h => hdis j i hj hi h.symm) hPX hk1
  generalize H1 = H at hP1 hS1 hPX ⊢
  generalize locs1 = locs at hS1 ⊢
  show W p l e room_1 s m #[Value.ref b] below meth c H locs 332 16134 (lw_Z below #[Value.ref b] s) (F0 m 112 ls [.int z, .int z])
  refine lv_icmp_eq (tgt := 541) hx hb dL_law_112 (by decide) (fun _ => ?_) (fun h9 => absurd rfl h9)
  exact K H locs ⟨hPX, hP1, hDX, hD1, hS1⟩
set_option maxHeartbeats 4000000 in
set_option maxRecDepth 100000 in
theorem law_op1 {p : Program} {l : Launch} {e : Env} {s : State} {m : MethodId} {below : List Frame} {meth : Method} {c : Code} {D : va_G} {lx lm : Nat → Nat} {cy : Nat → ClassId} {b L : Nat} {xs : Nat → Int32} (hL : L ≤ 448) (C0 : lw_At p s m meth c b L xs) (hK : va_K D vwCl (pm_T cy) s) (hdis : ∀ i j, i < 288 → j < 44 → lx i ≠ lm j) {j : Nat} (hj : 7 * j + 7 ≤ L) {σ τ σ' τ' : pST} {z : Int32} (hfX : kX7_act σ (.inr (.inr 0) :: opA 1 (fun d => xs (7 * j + d))) = some (σ', some (.inl z))) (hfM : kX8_act τ (.inr (.inr 0) :: opA 1 (fun d => xs (7 * j + d))) = some (τ', some (.inl z))) {H : Heap} {locs : List Loc} (hI : lw_I s D lx lm cy σ τ H locs) {ls : Array Slot} (hl : lv_has ls 4 [(0, .ref b), (1, .ref (lx 0)), (2, .ref (lm 0)), (3, .int (nI (7 * j)))]) (K : ∀ H locs, lw_I s D lx lm cy σ' τ' H locs → W p l e room_1 s m #[Value.ref b] below meth c H locs 332 16134 (lw_Z below #[Value.ref b] s) (F0 m 541 ls [])) : W p l e room_1 s m #[Value.ref b] below meth c H locs 332 16134 (lw_Z below #[Value.ref b] s) (F0 m 117 ls []) := by
  obtain ⟨hx, hb, hr, hml, hown, hts, hX, hbl, hlocks, hgv⟩ := C0
  have hA : ∀ q : Nat, s.heap.size ≤ q → (fun q : Nat => s.heap.size ≤ q) q := fun _ h => h
  have hbA : ¬ (fun q : Nat => s.heap.size ≤ q) b := Nat.not_le.mpr hbl
  have hts9 : ∀ w ∈ wsL_law, w.before #[Value.ref b] s = true := fun w h => hts w (wsL_law_in w h)
  obtain ⟨hPX, hPM, hDX, hDM, hS⟩ := hI
  refine lv_aload_n hx hb dL_law_117 rfl (lv_at hl 1 rfl) ?_
  refine lv_aload_n hx hb dL_law_118 rfl (lv_at hl 0 rfl) ?_
  refine lv_iload_n hx hb dL_law_119 rfl (lv_at hl 3 rfl) ?_
  refine lv_iconst (v := nI 1) hx hb dL_law_120 rfl ?_
  refine lv_iadd hx hb dL_law_121 ?_
  rw [nI_add (7 * j) 1]
  refine va_sld hx hb hX hbl hbA hS (vp_in_nI (show 7 * j + 1 < L by omega) (by omega)) dL_law_122 ?_
  rw [nI_clamp (show 7 * j + 1 < 2 ^ 31 by omega)]
  refine lv_aload_n hx hb dL_law_123 rfl (lv_at hl 0 rfl) ?_
  refine lv_iload_n hx hb dL_law_124 rfl (lv_at hl 3 rfl) ?_
  refine lv_iconst (v := nI 2) hx hb dL_law_125 rfl ?_
  refine lv_iadd hx hb dL_law_126 ?_
  rw [nI_add (7 * j) 2]
  refine va_sld hx hb hX hbl hbA hS (vp_in_nI (show 7 * j + 2 < L by omega) (by omega)) dL_law_127 ?_
  rw [nI_clamp (show 7 * j + 2 < 2 ^ 31 by omega)]
  refine lv_aload_n hx hb dL_law_128 rfl (lv_at hl 0 rfl) ?_
  refine lv_iload_n hx hb dL_law_129 rfl (lv_at hl 3 rfl) ?_
  refine lv_iconst (v := nI 3) hx hb dL_law_130 rfl ?_
  refine lv_iadd hx hb dL_law_131 ?_
  rw [nI_add (7 * j) 3]
  refine va_sld hx hb hX hbl hbA hS (vp_in_nI (show 7 * j + 3 < L by omega) (by omega)) dL_law_132 ?_
  rw [nI_clamp (show 7 * j + 3 < 2 ^ 31 by omega)]
  refine lv_aload_n hx hb dL_law_133 rfl (lv_at hl 0 rfl) ?_
  refine lv_iload_n hx hb dL_law_134 rfl (lv_at hl 3 rfl) ?_
  refine lv_iconst (v := nI 4) hx hb dL_law_135 rfl ?_
  refine lv_iadd hx hb dL_law_136 ?_
  rw [nI_add (7 * j) 4]
  refine va_sld hx hb hX hbl hbA hS (vp_in_nI (show 7 * j + 4 < L by omega) (by omega)) dL_law_137 ?_
  rw [nI_clamp (show 7 * j + 4 < 2 ^ 31 by omega)]
  refine lv_aload_n hx hb dL_law_138 rfl (lv_at hl 0 rfl) ?_
  refine lv_iload_n hx hb dL_law_139 rfl (lv_at hl 3 rfl) ?_
  refine lv_iconst (v := nI 5) hx hb dL_law_140 rfl ?_
  refine lv_iadd hx hb dL_law_141 ?_
  rw [nI_add (7 * j) 5]
  refine va_sld hx hb hX hbl hbA hS (vp_in_nI (show 7 * j + 5 < L by omega) (by omega)) dL_law_142 ?_
  rw [nI_clamp (show 7 * j + 5 < 2 ^ 31 by omega)]
  refine lv_i2l hx hb dL_law_143 rfl ?_
  refine lv_bipush (v := nI 32) hx hb dL_law_144 rfl ?_
  refine lv_lshl hx hb dL_law_146 rfl ?_
  refine lv_aload_n hx hb dL_law_147 rfl (lv_at hl 0 rfl) ?_
  refine lv_iload_n hx hb dL_law_148 rfl (lv_at hl 3 rfl) ?_
  refine lv_bipush (v := nI 6) hx hb dL_law_149 rfl ?_
  refine lv_iadd hx hb dL_law_151 ?_
  rw [nI_add (7 * j) 6]
  refine va_sld hx hb hX hbl hbA hS (vp_in_nI (show 7 * j + 6 < L by omega) (by omega)) dL_law_152 ?_
  rw [nI_clamp (show 7 * j + 6 < 2 ^ 31 by omega)]
  refine lv_i2l hx hb dL_law_153 rfl ?_
  refine lv_ldc2 (v := 4294967295) hx hb hown (hts9 (.constantLong RL 18 4294967295) (by decide +kernel)) dL_law_154 ?_
  refine lv_land hx hb dL_law_157 ?_
  refine lv_lor hx hb dL_law_158 ?_
  refine lw_call (lay := lx) (i := 0) (vs' := opA 1 (fun d => xs (7 * j + d))) (rest := []) hx hb hml hown hts9 hK shX_N hA (cl_X7_act l) dL_law_159 hfX rfl hl.1 (Nat.le_of_ble_eq_true rfl) (by decide) (by decide) hPX hDX hS (fun H1 locs1 hP1 hD1 hS1 hk1 => ?_)
  have hPM := lw_keep hdis hPM hk1
  generalize H1 = H at hP1 hS1 hPM ⊢
  generalize locs1 = locs at hS1 ⊢
  have hPX := hP1
  have hDX := hD1
  have hS := hS1
  show W p l e room_1 s m #[Value.ref b] below meth c H locs 332 16134 (lw_Z below #[Value.ref b] s) (F0 m 162 ls [.int z])
  refine lv_aload_n hx hb dL_law_162 rfl (lv_at hl 2 rfl) ?_
  refine lv_aload_n hx hb dL_law_163 rfl (lv_at hl 0 rfl) ?_
  refine lv_iload_n hx hb dL_law_164 rfl (lv_at hl 3 rfl) ?_
  refine lv_iconst (v := nI 1) hx hb dL_law_165 rfl ?_
  refine lv_iadd hx hb dL_law_166 ?_
  rw [nI_add (7 * j) 1]
  refine va_sld hx hb hX hbl hbA hS (vp_in_nI (show 7 * j + 1 < L by omega) (by omega)) dL_law_167 ?_
  rw [nI_clamp (show 7 * j + 1 < 2 ^ 31 by omega)]
  refine lv_aload_n hx hb dL_law_168 rfl (lv_at hl 0 rfl) ?_
  refine lv_iload_n hx hb dL_law_169 rfl (lv_at hl 3 rfl) ?_
  refine lv_iconst (v := nI 2) hx hb dL_law_170 rfl ?_
  refine lv_iadd hx hb dL_law_171 ?_
  rw [nI_add (7 * j) 2]
  refine va_sld hx hb hX hbl hbA hS (vp_in_nI (show 7 * j + 2 < L by omega) (by omega)) dL_law_172 ?_
  rw [nI_clamp (show 7 * j + 2 < 2 ^ 31 by omega)]
  refine lv_aload_n hx hb dL_law_173 rfl (lv_at hl 0 rfl) ?_
  refine lv_iload_n hx hb dL_law_174 rfl (lv_at hl 3 rfl) ?_
  refine lv_iconst (v := nI 3) hx hb dL_law_175 rfl ?_
  refine lv_iadd hx hb dL_law_176 ?_
  rw [nI_add (7 * j) 3]
  refine va_sld hx hb hX hbl hbA hS (vp_in_nI (show 7 * j + 3 < L by omega) (by omega)) dL_law_177 ?_
  rw [nI_clamp (show 7 * j + 3 < 2 ^ 31 by omega)]
  refine lv_aload_n hx hb dL_law_178 rfl (lv_at hl 0 rfl) ?_
  refine lv_iload_n hx hb dL_law_179 rfl (lv_at hl 3 rfl) ?_
  refine lv_iconst (v := nI 4) hx hb dL_law_180 rfl ?_
  refine lv_iadd hx hb dL_law_181 ?_
  rw [nI_add (7 * j) 4]
  refine va_sld hx hb hX hbl hbA hS (vp_in_nI (show 7 * j + 4 < L by omega) (by omega)) dL_law_182 ?_
  rw [nI_clamp (show 7 * j + 4 < 2 ^ 31 by omega)]
  refine lv_aload_n hx hb dL_law_183 rfl (lv_at hl 0 rfl) ?_
  refine lv_iload_n hx hb dL_law_184 rfl (lv_at hl 3 rfl) ?_
  refine lv_iconst (v := nI 5) hx hb dL_law_185 rfl ?_
  refine lv_iadd hx hb dL_law_186 ?_
  rw [nI_add (7 * j) 5]
  refine va_sld hx hb hX hbl hbA hS (vp_in_nI (show 7 * j + 5 < L by omega) (by omega)) dL_law_187 ?_
  rw [nI_clamp (show 7 * j + 5 < 2 ^ 31 by omega)]
  refine lv_i2l hx hb dL_law_188 rfl ?_
  refine lv_bipush (v := nI 32) hx hb dL_law_189 rfl ?_
  refine lv_lshl hx hb dL_law_191 rfl ?_
  refine lv_aload_n hx hb dL_law_192 rfl (lv_at hl 0 rfl) ?_
  refine lv_iload_n hx hb dL_law_193 rfl (lv_at hl 3 rfl) ?_
  refine lv_bipush (v := nI 6) hx hb dL_law_194 rfl ?_
  refine lv_iadd hx hb dL_law_196 ?_
  rw [nI_add (7 * j) 6]
  refine va_sld hx hb hX hbl hbA hS (vp_in_nI (show 7 * j + 6 < L by omega) (by omega)) dL_law_197 ?_
  rw [nI_clamp (show 7 * j + 6 < 2 ^ 31 by omega)]
  refine lv_i2l hx hb dL_law_198 rfl ?_
  refine lv_ldc2 (v := 4294967295) hx hb hown (hts9 (.constantLong RL 18 4294967295) (by decide +kernel)) dL_law_199 ?_
  refine lv_land hx hb dL_law_202 ?_
  refine lv_lor hx hb dL_law_203 ?_
  refine lw_call (lay := lm) (i := 0) (vs' := opA 1 (fun d => xs (7 * j + d))) (rest := [.int z]) hx hb hml hown hts9 hK shM_N hA (cl_X8_act l) dL_law_204 hfM rfl hl.1 (Nat.le_of_ble_eq_true rfl) (by decide) (by decide) hPM hDM hS (fun H1 locs1 hP1 hD1 hS1 hk1 => ?_)
  have hPX := lw_keep (fun i j hi hj h => hdis j i hj hi h.symm) hPX hk1
  generalize H1 = H at hP1 hS1 hPX ⊢
  generalize locs1 = locs at hS1 ⊢
  show W p l e room_1 s m #[Value.ref b] below meth c H locs 332 16134 (lw_Z below #[Value.ref b] s) (F0 m 207 ls [.int z, .int z])
  refine lv_icmp_eq (tgt := 541) hx hb dL_law_207 (by decide) (fun _ => ?_) (fun h9 => absurd rfl h9)
  exact K H locs ⟨hPX, hP1, hDX, hD1, hS1⟩
set_option maxHeartbeats 4000000 in
set_option maxRecDepth 100000 in
theorem law_op2 {p : Program} {l : Launch} {e : Env} {s : State} {m : MethodId} {below : List Frame} {meth : Method} {c : Code} {D : va_G} {lx lm : Nat → Nat} {cy : Nat → ClassId} {b L : Nat} {xs : Nat → Int32} (hL : L ≤ 448) (C0 : lw_At p s m meth c b L xs) (hK : va_K D vwCl (pm_T cy) s) (hdis : ∀ i j, i < 288 → j < 44 → lx i ≠ lm j) {j : Nat} (hj : 7 * j + 7 ≤ L) {σ τ σ' τ' : pST} {z : Int32} (hfX : kX7_clear σ (.inr (.inr 0) :: opA 2 (fun d => xs (7 * j + d))) = some (σ', some (.inl z))) (hfM : kX8_clear τ (.inr (.inr 0) :: opA 2 (fun d => xs (7 * j + d))) = some (τ', some (.inl z))) {H : Heap} {locs : List Loc} (hI : lw_I s D lx lm cy σ τ H locs) {ls : Array Slot} (hl : lv_has ls 4 [(0, .ref b), (1, .ref (lx 0)), (2, .ref (lm 0)), (3, .int (nI (7 * j)))]) (K : ∀ H locs, lw_I s D lx lm cy σ' τ' H locs → W p l e room_1 s m #[Value.ref b] below meth c H locs 332 16134 (lw_Z below #[Value.ref b] s) (F0 m 541 ls [])) : W p l e room_1 s m #[Value.ref b] below meth c H locs 332 16134 (lw_Z below #[Value.ref b] s) (F0 m 212 ls []) := by
  obtain ⟨hx, hb, hr, hml, hown, hts, hX, hbl, hlocks, hgv⟩ := C0
  have hA : ∀ q : Nat, s.heap.size ≤ q → (fun q : Nat => s.heap.size ≤ q) q := fun _ h => h
  have hbA : ¬ (fun q : Nat => s.heap.size ≤ q) b := Nat.not_le.mpr hbl
  have hts9 : ∀ w ∈ wsL_law, w.before #[Value.ref b] s = true := fun w h => hts w (wsL_law_in w h)
  obtain ⟨hPX, hPM, hDX, hDM, hS⟩ := hI
  refine lv_aload_n hx hb dL_law_212 rfl (lv_at hl 1 rfl) ?_
  refine lw_call (lay := lx) (i := 0) (vs' := opA 2 (fun d => xs (7 * j + d))) (rest := []) hx hb hml hown hts9 hK shX_N hA (cl_X7_clear l) dL_law_213 hfX rfl hl.1 (Nat.le_of_ble_eq_true rfl) (by decide) (by decide) hPX hDX hS (fun H1 locs1 hP1 hD1 hS1 hk1 => ?_)
  have hPM := lw_keep hdis hPM hk1
  generalize H1 = H at hP1 hS1 hPM ⊢
  generalize locs1 = locs at hS1 ⊢
  have hPX := hP1
  have hDX := hD1
  have hS := hS1
  show W p l e room_1 s m #[Value.ref b] below meth c H locs 332 16134 (lw_Z below #[Value.ref b] s) (F0 m 216 ls [.int z])
  refine lv_aload_n hx hb dL_law_216 rfl (lv_at hl 2 rfl) ?_
  refine lw_call (lay := lm) (i := 0) (vs' := opA 2 (fun d => xs (7 * j + d))) (rest := [.int z]) hx hb hml hown hts9 hK shM_N hA (cl_X8_clear l) dL_law_217 hfM rfl hl.1 (Nat.le_of_ble_eq_true rfl) (by decide) (by decide) hPM hDM hS (fun H1 locs1 hP1 hD1 hS1 hk1 => ?_)
  have hPX := lw_keep (fun i j hi hj h => hdis j i hj hi h.symm) hPX hk1
  generalize H1 = H at hP1 hS1 hPX ⊢
  generalize locs1 = locs at hS1 ⊢
  show W p l e room_1 s m #[Value.ref b] below meth c H locs 332 16134 (lw_Z below #[Value.ref b] s) (F0 m 220 ls [.int z, .int z])
  refine lv_icmp_eq (tgt := 541) hx hb dL_law_220 (by decide) (fun _ => ?_) (fun h9 => absurd rfl h9)
  exact K H locs ⟨hPX, hP1, hDX, hD1, hS1⟩
set_option maxHeartbeats 4000000 in
set_option maxRecDepth 100000 in
theorem law_op3 {p : Program} {l : Launch} {e : Env} {s : State} {m : MethodId} {below : List Frame} {meth : Method} {c : Code} {D : va_G} {lx lm : Nat → Nat} {cy : Nat → ClassId} {b L : Nat} {xs : Nat → Int32} (hL : L ≤ 448) (C0 : lw_At p s m meth c b L xs) (hK : va_K D vwCl (pm_T cy) s) (hdis : ∀ i j, i < 288 → j < 44 → lx i ≠ lm j) {j : Nat} (hj : 7 * j + 7 ≤ L) {σ τ σ' τ' : pST} {z : Int32} (hfX : kX7_leaf σ (.inr (.inr 0) :: opA 3 (fun d => xs (7 * j + d))) = some (σ', some (.inl z))) (hfM : kX8_leaf τ (.inr (.inr 0) :: opA 3 (fun d => xs (7 * j + d))) = some (τ', some (.inl z))) {H : Heap} {locs : List Loc} (hI : lw_I s D lx lm cy σ τ H locs) {ls : Array Slot} (hl : lv_has ls 4 [(0, .ref b), (1, .ref (lx 0)), (2, .ref (lm 0)), (3, .int (nI (7 * j)))]) (K : ∀ H locs, lw_I s D lx lm cy σ' τ' H locs → W p l e room_1 s m #[Value.ref b] below meth c H locs 332 16134 (lw_Z below #[Value.ref b] s) (F0 m 541 ls [])) : W p l e room_1 s m #[Value.ref b] below meth c H locs 332 16134 (lw_Z below #[Value.ref b] s) (F0 m 225 ls []) := by
  obtain ⟨hx, hb, hr, hml, hown, hts, hX, hbl, hlocks, hgv⟩ := C0
  have hA : ∀ q : Nat, s.heap.size ≤ q → (fun q : Nat => s.heap.size ≤ q) q := fun _ h => h
  have hbA : ¬ (fun q : Nat => s.heap.size ≤ q) b := Nat.not_le.mpr hbl
  have hts9 : ∀ w ∈ wsL_law, w.before #[Value.ref b] s = true := fun w h => hts w (wsL_law_in w h)
  obtain ⟨hPX, hPM, hDX, hDM, hS⟩ := hI
  refine lv_aload_n hx hb dL_law_225 rfl (lv_at hl 1 rfl) ?_
  refine lv_aload_n hx hb dL_law_226 rfl (lv_at hl 0 rfl) ?_
  refine lv_iload_n hx hb dL_law_227 rfl (lv_at hl 3 rfl) ?_
  refine lv_iconst (v := nI 1) hx hb dL_law_228 rfl ?_
  refine lv_iadd hx hb dL_law_229 ?_
  rw [nI_add (7 * j) 1]
  refine va_sld hx hb hX hbl hbA hS (vp_in_nI (show 7 * j + 1 < L by omega) (by omega)) dL_law_230 ?_
  rw [nI_clamp (show 7 * j + 1 < 2 ^ 31 by omega)]
  refine lv_aload_n hx hb dL_law_231 rfl (lv_at hl 0 rfl) ?_
  refine lv_iload_n hx hb dL_law_232 rfl (lv_at hl 3 rfl) ?_
  refine lv_iconst (v := nI 2) hx hb dL_law_233 rfl ?_
  refine lv_iadd hx hb dL_law_234 ?_
  rw [nI_add (7 * j) 2]
  refine va_sld hx hb hX hbl hbA hS (vp_in_nI (show 7 * j + 2 < L by omega) (by omega)) dL_law_235 ?_
  rw [nI_clamp (show 7 * j + 2 < 2 ^ 31 by omega)]
  refine lv_i2l hx hb dL_law_236 rfl ?_
  refine lv_bipush (v := nI 32) hx hb dL_law_237 rfl ?_
  refine lv_lshl hx hb dL_law_239 rfl ?_
  refine lv_aload_n hx hb dL_law_240 rfl (lv_at hl 0 rfl) ?_
  refine lv_iload_n hx hb dL_law_241 rfl (lv_at hl 3 rfl) ?_
  refine lv_iconst (v := nI 3) hx hb dL_law_242 rfl ?_
  refine lv_iadd hx hb dL_law_243 ?_
  rw [nI_add (7 * j) 3]
  refine va_sld hx hb hX hbl hbA hS (vp_in_nI (show 7 * j + 3 < L by omega) (by omega)) dL_law_244 ?_
  rw [nI_clamp (show 7 * j + 3 < 2 ^ 31 by omega)]
  refine lv_i2l hx hb dL_law_245 rfl ?_
  refine lv_ldc2 (v := 4294967295) hx hb hown (hts9 (.constantLong RL 18 4294967295) (by decide +kernel)) dL_law_246 ?_
  refine lv_land hx hb dL_law_249 ?_
  refine lv_lor hx hb dL_law_250 ?_
  refine lw_call (lay := lx) (i := 0) (vs' := opA 3 (fun d => xs (7 * j + d))) (rest := []) hx hb hml hown hts9 hK shX_N hA (cl_X7_leaf l) dL_law_251 hfX rfl hl.1 (Nat.le_of_ble_eq_true rfl) (by decide) (by decide) hPX hDX hS (fun H1 locs1 hP1 hD1 hS1 hk1 => ?_)
  have hPM := lw_keep hdis hPM hk1
  generalize H1 = H at hP1 hS1 hPM ⊢
  generalize locs1 = locs at hS1 ⊢
  have hPX := hP1
  have hDX := hD1
  have hS := hS1
  show W p l e room_1 s m #[Value.ref b] below meth c H locs 332 16134 (lw_Z below #[Value.ref b] s) (F0 m 254 ls [.int z])
  refine lv_aload_n hx hb dL_law_254 rfl (lv_at hl 2 rfl) ?_
  refine lv_aload_n hx hb dL_law_255 rfl (lv_at hl 0 rfl) ?_
  refine lv_iload_n hx hb dL_law_256 rfl (lv_at hl 3 rfl) ?_
  refine lv_iconst (v := nI 1) hx hb dL_law_257 rfl ?_
  refine lv_iadd hx hb dL_law_258 ?_
  rw [nI_add (7 * j) 1]
  refine va_sld hx hb hX hbl hbA hS (vp_in_nI (show 7 * j + 1 < L by omega) (by omega)) dL_law_259 ?_
  rw [nI_clamp (show 7 * j + 1 < 2 ^ 31 by omega)]
  refine lv_aload_n hx hb dL_law_260 rfl (lv_at hl 0 rfl) ?_
  refine lv_iload_n hx hb dL_law_261 rfl (lv_at hl 3 rfl) ?_
  refine lv_iconst (v := nI 2) hx hb dL_law_262 rfl ?_
  refine lv_iadd hx hb dL_law_263 ?_
  rw [nI_add (7 * j) 2]
  refine va_sld hx hb hX hbl hbA hS (vp_in_nI (show 7 * j + 2 < L by omega) (by omega)) dL_law_264 ?_
  rw [nI_clamp (show 7 * j + 2 < 2 ^ 31 by omega)]
  refine lv_i2l hx hb dL_law_265 rfl ?_
  refine lv_bipush (v := nI 32) hx hb dL_law_266 rfl ?_
  refine lv_lshl hx hb dL_law_268 rfl ?_
  refine lv_aload_n hx hb dL_law_269 rfl (lv_at hl 0 rfl) ?_
  refine lv_iload_n hx hb dL_law_270 rfl (lv_at hl 3 rfl) ?_
  refine lv_iconst (v := nI 3) hx hb dL_law_271 rfl ?_
  refine lv_iadd hx hb dL_law_272 ?_
  rw [nI_add (7 * j) 3]
  refine va_sld hx hb hX hbl hbA hS (vp_in_nI (show 7 * j + 3 < L by omega) (by omega)) dL_law_273 ?_
  rw [nI_clamp (show 7 * j + 3 < 2 ^ 31 by omega)]
  refine lv_i2l hx hb dL_law_274 rfl ?_
  refine lv_ldc2 (v := 4294967295) hx hb hown (hts9 (.constantLong RL 18 4294967295) (by decide +kernel)) dL_law_275 ?_
  refine lv_land hx hb dL_law_278 ?_
  refine lv_lor hx hb dL_law_279 ?_
  refine lw_call (lay := lm) (i := 0) (vs' := opA 3 (fun d => xs (7 * j + d))) (rest := [.int z]) hx hb hml hown hts9 hK shM_N hA (cl_X8_leaf l) dL_law_280 hfM rfl hl.1 (Nat.le_of_ble_eq_true rfl) (by decide) (by decide) hPM hDM hS (fun H1 locs1 hP1 hD1 hS1 hk1 => ?_)
  have hPX := lw_keep (fun i j hi hj h => hdis j i hj hi h.symm) hPX hk1
  generalize H1 = H at hP1 hS1 hPX ⊢
  generalize locs1 = locs at hS1 ⊢
  show W p l e room_1 s m #[Value.ref b] below meth c H locs 332 16134 (lw_Z below #[Value.ref b] s) (F0 m 283 ls [.int z, .int z])
  refine lv_icmp_eq (tgt := 541) hx hb dL_law_283 (by decide) (fun _ => ?_) (fun h9 => absurd rfl h9)
  exact K H locs ⟨hPX, hP1, hDX, hD1, hS1⟩
set_option maxHeartbeats 4000000 in
set_option maxRecDepth 100000 in
theorem law_op4 {p : Program} {l : Launch} {e : Env} {s : State} {m : MethodId} {below : List Frame} {meth : Method} {c : Code} {D : va_G} {lx lm : Nat → Nat} {cy : Nat → ClassId} {b L : Nat} {xs : Nat → Int32} (hL : L ≤ 448) (C0 : lw_At p s m meth c b L xs) (hK : va_K D vwCl (pm_T cy) s) (hdis : ∀ i j, i < 288 → j < 44 → lx i ≠ lm j) {j : Nat} (hj : 7 * j + 7 ≤ L) {σ τ σ' τ' : pST} {z : Int32} (hfX : kX7_bound σ (.inr (.inr 0) :: opA 4 (fun d => xs (7 * j + d))) = some (σ', some (.inl z))) (hfM : kX8_bound τ (.inr (.inr 0) :: opA 4 (fun d => xs (7 * j + d))) = some (τ', some (.inl z))) {H : Heap} {locs : List Loc} (hI : lw_I s D lx lm cy σ τ H locs) {ls : Array Slot} (hl : lv_has ls 4 [(0, .ref b), (1, .ref (lx 0)), (2, .ref (lm 0)), (3, .int (nI (7 * j)))]) (K : ∀ H locs, lw_I s D lx lm cy σ' τ' H locs → W p l e room_1 s m #[Value.ref b] below meth c H locs 332 16134 (lw_Z below #[Value.ref b] s) (F0 m 541 ls [])) : W p l e room_1 s m #[Value.ref b] below meth c H locs 332 16134 (lw_Z below #[Value.ref b] s) (F0 m 288 ls []) := by
  obtain ⟨hx, hb, hr, hml, hown, hts, hX, hbl, hlocks, hgv⟩ := C0
  have hA : ∀ q : Nat, s.heap.size ≤ q → (fun q : Nat => s.heap.size ≤ q) q := fun _ h => h
  have hbA : ¬ (fun q : Nat => s.heap.size ≤ q) b := Nat.not_le.mpr hbl
  have hts9 : ∀ w ∈ wsL_law, w.before #[Value.ref b] s = true := fun w h => hts w (wsL_law_in w h)
  obtain ⟨hPX, hPM, hDX, hDM, hS⟩ := hI
  refine lv_aload_n hx hb dL_law_288 rfl (lv_at hl 1 rfl) ?_
  refine lv_aload_n hx hb dL_law_289 rfl (lv_at hl 0 rfl) ?_
  refine lv_iload_n hx hb dL_law_290 rfl (lv_at hl 3 rfl) ?_
  refine lv_iconst (v := nI 1) hx hb dL_law_291 rfl ?_
  refine lv_iadd hx hb dL_law_292 ?_
  rw [nI_add (7 * j) 1]
  refine va_sld hx hb hX hbl hbA hS (vp_in_nI (show 7 * j + 1 < L by omega) (by omega)) dL_law_293 ?_
  rw [nI_clamp (show 7 * j + 1 < 2 ^ 31 by omega)]
  refine lw_call (lay := lx) (i := 0) (vs' := opA 4 (fun d => xs (7 * j + d))) (rest := []) hx hb hml hown hts9 hK shX_N hA (cl_X7_bound l) dL_law_294 hfX rfl hl.1 (Nat.le_of_ble_eq_true rfl) (by decide) (by decide) hPX hDX hS (fun H1 locs1 hP1 hD1 hS1 hk1 => ?_)
  have hPM := lw_keep hdis hPM hk1
  generalize H1 = H at hP1 hS1 hPM ⊢
  generalize locs1 = locs at hS1 ⊢
  have hPX := hP1
  have hDX := hD1
  have hS := hS1
  show W p l e room_1 s m #[Value.ref b] below meth c H locs 332 16134 (lw_Z below #[Value.ref b] s) (F0 m 297 ls [.int z])
  refine lv_aload_n hx hb dL_law_297 rfl (lv_at hl 2 rfl) ?_
  refine lv_aload_n hx hb dL_law_298 rfl (lv_at hl 0 rfl) ?_
  refine lv_iload_n hx hb dL_law_299 rfl (lv_at hl 3 rfl) ?_
  refine lv_iconst (v := nI 1) hx hb dL_law_300 rfl ?_
  refine lv_iadd hx hb dL_law_301 ?_
  rw [nI_add (7 * j) 1]
  refine va_sld hx hb hX hbl hbA hS (vp_in_nI (show 7 * j + 1 < L by omega) (by omega)) dL_law_302 ?_
  rw [nI_clamp (show 7 * j + 1 < 2 ^ 31 by omega)]
  refine lw_call (lay := lm) (i := 0) (vs' := opA 4 (fun d => xs (7 * j + d))) (rest := [.int z]) hx hb hml hown hts9 hK shM_N hA (cl_X8_bound l) dL_law_303 hfM rfl hl.1 (Nat.le_of_ble_eq_true rfl) (by decide) (by decide) hPM hDM hS (fun H1 locs1 hP1 hD1 hS1 hk1 => ?_)
  have hPX := lw_keep (fun i j hi hj h => hdis j i hj hi h.symm) hPX hk1
  generalize H1 = H at hP1 hS1 hPX ⊢
  generalize locs1 = locs at hS1 ⊢
  show W p l e room_1 s m #[Value.ref b] below meth c H locs 332 16134 (lw_Z below #[Value.ref b] s) (F0 m 306 ls [.int z, .int z])
  refine lv_icmp_eq (tgt := 541) hx hb dL_law_306 (by decide) (fun _ => ?_) (fun h9 => absurd rfl h9)
  exact K H locs ⟨hPX, hP1, hDX, hD1, hS1⟩
set_option maxHeartbeats 4000000 in
set_option maxRecDepth 100000 in
theorem law_op5 {p : Program} {l : Launch} {e : Env} {s : State} {m : MethodId} {below : List Frame} {meth : Method} {c : Code} {D : va_G} {lx lm : Nat → Nat} {cy : Nat → ClassId} {b L : Nat} {xs : Nat → Int32} (hL : L ≤ 448) (C0 : lw_At p s m meth c b L xs) (hK : va_K D vwCl (pm_T cy) s) (hdis : ∀ i j, i < 288 → j < 44 → lx i ≠ lm j) {j : Nat} (hj : 7 * j + 7 ≤ L) {σ τ σ' τ' : pST} {z : Int32} (hfX : kX7_run σ (.inr (.inr 0) :: opA 5 (fun d => xs (7 * j + d))) = some (σ', some (.inl z))) (hfM : kX8_run τ (.inr (.inr 0) :: opA 5 (fun d => xs (7 * j + d))) = some (τ', some (.inl z))) {H : Heap} {locs : List Loc} (hI : lw_I s D lx lm cy σ τ H locs) {ls : Array Slot} (hl : lv_has ls 4 [(0, .ref b), (1, .ref (lx 0)), (2, .ref (lm 0)), (3, .int (nI (7 * j)))]) (K : ∀ H locs, lw_I s D lx lm cy σ' τ' H locs → W p l e room_1 s m #[Value.ref b] below meth c H locs 332 16134 (lw_Z below #[Value.ref b] s) (F0 m 541 ls [])) : W p l e room_1 s m #[Value.ref b] below meth c H locs 332 16134 (lw_Z below #[Value.ref b] s) (F0 m 311 ls []) := by
  obtain ⟨hx, hb, hr, hml, hown, hts, hX, hbl, hlocks, hgv⟩ := C0
  have hA : ∀ q : Nat, s.heap.size ≤ q → (fun q : Nat => s.heap.size ≤ q) q := fun _ h => h
  have hbA : ¬ (fun q : Nat => s.heap.size ≤ q) b := Nat.not_le.mpr hbl
  have hts9 : ∀ w ∈ wsL_law, w.before #[Value.ref b] s = true := fun w h => hts w (wsL_law_in w h)
  obtain ⟨hPX, hPM, hDX, hDM, hS⟩ := hI
  refine lv_aload_n hx hb dL_law_311 rfl (lv_at hl 1 rfl) ?_
  refine lv_aload_n hx hb dL_law_312 rfl (lv_at hl 0 rfl) ?_
  refine lv_iload_n hx hb dL_law_313 rfl (lv_at hl 3 rfl) ?_
  refine lv_iconst (v := nI 1) hx hb dL_law_314 rfl ?_
  refine lv_iadd hx hb dL_law_315 ?_
  rw [nI_add (7 * j) 1]
  refine va_sld hx hb hX hbl hbA hS (vp_in_nI (show 7 * j + 1 < L by omega) (by omega)) dL_law_316 ?_
  rw [nI_clamp (show 7 * j + 1 < 2 ^ 31 by omega)]
  refine lv_aload_n hx hb dL_law_317 rfl (lv_at hl 0 rfl) ?_
  refine lv_iload_n hx hb dL_law_318 rfl (lv_at hl 3 rfl) ?_
  refine lv_iconst (v := nI 2) hx hb dL_law_319 rfl ?_
  refine lv_iadd hx hb dL_law_320 ?_
  rw [nI_add (7 * j) 2]
  refine va_sld hx hb hX hbl hbA hS (vp_in_nI (show 7 * j + 2 < L by omega) (by omega)) dL_law_321 ?_
  rw [nI_clamp (show 7 * j + 2 < 2 ^ 31 by omega)]
  refine lw_call (lay := lx) (i := 0) (vs' := opA 5 (fun d => xs (7 * j + d))) (rest := []) hx hb hml hown hts9 hK shX_N hA (cl_X7_run l) dL_law_322 hfX rfl hl.1 (Nat.le_of_ble_eq_true rfl) (by decide) (by decide) hPX hDX hS (fun H1 locs1 hP1 hD1 hS1 hk1 => ?_)
  have hPM := lw_keep hdis hPM hk1
  generalize H1 = H at hP1 hS1 hPM ⊢
  generalize locs1 = locs at hS1 ⊢
  have hPX := hP1
  have hDX := hD1
  have hS := hS1
  show W p l e room_1 s m #[Value.ref b] below meth c H locs 332 16134 (lw_Z below #[Value.ref b] s) (F0 m 325 ls [.int z])
  refine lv_aload_n hx hb dL_law_325 rfl (lv_at hl 2 rfl) ?_
  refine lv_aload_n hx hb dL_law_326 rfl (lv_at hl 0 rfl) ?_
  refine lv_iload_n hx hb dL_law_327 rfl (lv_at hl 3 rfl) ?_
  refine lv_iconst (v := nI 1) hx hb dL_law_328 rfl ?_
  refine lv_iadd hx hb dL_law_329 ?_
  rw [nI_add (7 * j) 1]
  refine va_sld hx hb hX hbl hbA hS (vp_in_nI (show 7 * j + 1 < L by omega) (by omega)) dL_law_330 ?_
  rw [nI_clamp (show 7 * j + 1 < 2 ^ 31 by omega)]
  refine lv_aload_n hx hb dL_law_331 rfl (lv_at hl 0 rfl) ?_
  refine lv_iload_n hx hb dL_law_332 rfl (lv_at hl 3 rfl) ?_
  refine lv_iconst (v := nI 2) hx hb dL_law_333 rfl ?_
  refine lv_iadd hx hb dL_law_334 ?_
  rw [nI_add (7 * j) 2]
  refine va_sld hx hb hX hbl hbA hS (vp_in_nI (show 7 * j + 2 < L by omega) (by omega)) dL_law_335 ?_
  rw [nI_clamp (show 7 * j + 2 < 2 ^ 31 by omega)]
  refine lw_call (lay := lm) (i := 0) (vs' := opA 5 (fun d => xs (7 * j + d))) (rest := [.int z]) hx hb hml hown hts9 hK shM_N hA (cl_X8_run l) dL_law_336 hfM rfl hl.1 (Nat.le_of_ble_eq_true rfl) (by decide) (by decide) hPM hDM hS (fun H1 locs1 hP1 hD1 hS1 hk1 => ?_)
  have hPX := lw_keep (fun i j hi hj h => hdis j i hj hi h.symm) hPX hk1
  generalize H1 = H at hP1 hS1 hPX ⊢
  generalize locs1 = locs at hS1 ⊢
  show W p l e room_1 s m #[Value.ref b] below meth c H locs 332 16134 (lw_Z below #[Value.ref b] s) (F0 m 339 ls [.int z, .int z])
  refine lv_icmp_eq (tgt := 541) hx hb dL_law_339 (by decide) (fun _ => ?_) (fun h9 => absurd rfl h9)
  exact K H locs ⟨hPX, hP1, hDX, hD1, hS1⟩
set_option maxHeartbeats 4000000 in
set_option maxRecDepth 100000 in
theorem law_op6 {p : Program} {l : Launch} {e : Env} {s : State} {m : MethodId} {below : List Frame} {meth : Method} {c : Code} {D : va_G} {lx lm : Nat → Nat} {cy : Nat → ClassId} {b L : Nat} {xs : Nat → Int32} (hL : L ≤ 448) (C0 : lw_At p s m meth c b L xs) (hK : va_K D vwCl (pm_T cy) s) (hdis : ∀ i j, i < 288 → j < 44 → lx i ≠ lm j) {j : Nat} (hj : 7 * j + 7 ≤ L) {σ τ σ' τ' : pST} {z : Int64} (hfX : kX7_at σ (.inr (.inr 0) :: opA 6 (fun d => xs (7 * j + d))) = some (σ', some (.inr (.inl z)))) (hfM : kX8_at τ (.inr (.inr 0) :: opA 6 (fun d => xs (7 * j + d))) = some (τ', some (.inr (.inl z)))) {H : Heap} {locs : List Loc} (hI : lw_I s D lx lm cy σ τ H locs) {ls : Array Slot} (hl : lv_has ls 4 [(0, .ref b), (1, .ref (lx 0)), (2, .ref (lm 0)), (3, .int (nI (7 * j)))]) (K : ∀ H locs, lw_I s D lx lm cy σ' τ' H locs → W p l e room_1 s m #[Value.ref b] below meth c H locs 332 16134 (lw_Z below #[Value.ref b] s) (F0 m 541 ls [])) : W p l e room_1 s m #[Value.ref b] below meth c H locs 332 16134 (lw_Z below #[Value.ref b] s) (F0 m 344 ls []) := by
  obtain ⟨hx, hb, hr, hml, hown, hts, hX, hbl, hlocks, hgv⟩ := C0
  have hA : ∀ q : Nat, s.heap.size ≤ q → (fun q : Nat => s.heap.size ≤ q) q := fun _ h => h
  have hbA : ¬ (fun q : Nat => s.heap.size ≤ q) b := Nat.not_le.mpr hbl
  have hts9 : ∀ w ∈ wsL_law, w.before #[Value.ref b] s = true := fun w h => hts w (wsL_law_in w h)
  obtain ⟨hPX, hPM, hDX, hDM, hS⟩ := hI
  refine lv_aload_n hx hb dL_law_344 rfl (lv_at hl 1 rfl) ?_
  refine lv_aload_n hx hb dL_law_345 rfl (lv_at hl 0 rfl) ?_
  refine lv_iload_n hx hb dL_law_346 rfl (lv_at hl 3 rfl) ?_
  refine lv_iconst (v := nI 1) hx hb dL_law_347 rfl ?_
  refine lv_iadd hx hb dL_law_348 ?_
  rw [nI_add (7 * j) 1]
  refine va_sld hx hb hX hbl hbA hS (vp_in_nI (show 7 * j + 1 < L by omega) (by omega)) dL_law_349 ?_
  rw [nI_clamp (show 7 * j + 1 < 2 ^ 31 by omega)]
  refine lw_call (lay := lx) (i := 0) (vs' := opA 6 (fun d => xs (7 * j + d))) (rest := []) hx hb hml hown hts9 hK shX_N hA (cl_X7_at l) dL_law_350 hfX rfl hl.1 (Nat.le_of_ble_eq_true rfl) (by decide) (by decide) hPX hDX hS (fun H1 locs1 hP1 hD1 hS1 hk1 => ?_)
  have hPM := lw_keep hdis hPM hk1
  generalize H1 = H at hP1 hS1 hPM ⊢
  generalize locs1 = locs at hS1 ⊢
  have hPX := hP1
  have hDX := hD1
  have hS := hS1
  show W p l e room_1 s m #[Value.ref b] below meth c H locs 332 16134 (lw_Z below #[Value.ref b] s) (F0 m 353 ls [.long z])
  refine lv_aload_n hx hb dL_law_353 rfl (lv_at hl 2 rfl) ?_
  refine lv_aload_n hx hb dL_law_354 rfl (lv_at hl 0 rfl) ?_
  refine lv_iload_n hx hb dL_law_355 rfl (lv_at hl 3 rfl) ?_
  refine lv_iconst (v := nI 1) hx hb dL_law_356 rfl ?_
  refine lv_iadd hx hb dL_law_357 ?_
  rw [nI_add (7 * j) 1]
  refine va_sld hx hb hX hbl hbA hS (vp_in_nI (show 7 * j + 1 < L by omega) (by omega)) dL_law_358 ?_
  rw [nI_clamp (show 7 * j + 1 < 2 ^ 31 by omega)]
  refine lw_call (lay := lm) (i := 0) (vs' := opA 6 (fun d => xs (7 * j + d))) (rest := [.long z]) hx hb hml hown hts9 hK shM_N hA (cl_X8_at l) dL_law_359 hfM rfl hl.1 (Nat.le_of_ble_eq_true rfl) (by decide) (by decide) hPM hDM hS (fun H1 locs1 hP1 hD1 hS1 hk1 => ?_)
  have hPX := lw_keep (fun i j hi hj h => hdis j i hj hi h.symm) hPX hk1
  generalize H1 = H at hP1 hS1 hPX ⊢
  generalize locs1 = locs at hS1 ⊢
  show W p l e room_1 s m #[Value.ref b] below meth c H locs 332 16134 (lw_Z below #[Value.ref b] s) (F0 m 362 ls [.long z, .long z])
  refine W.lcmp hx hb dL_law_362 ?_
  rw [show lg_cmp z z = 0 by simp [lg_cmp]]
  refine lv_if_eq (tgt := 541) hx hb dL_law_363 (by decide) (fun _ => ?_) (fun h9 => absurd rfl h9)
  exact K H locs ⟨hPX, hP1, hDX, hD1, hS1⟩
set_option maxHeartbeats 4000000 in
set_option maxRecDepth 100000 in
theorem law_op7 {p : Program} {l : Launch} {e : Env} {s : State} {m : MethodId} {below : List Frame} {meth : Method} {c : Code} {D : va_G} {lx lm : Nat → Nat} {cy : Nat → ClassId} {b L : Nat} {xs : Nat → Int32} (hL : L ≤ 448) (C0 : lw_At p s m meth c b L xs) (hK : va_K D vwCl (pm_T cy) s) (hdis : ∀ i j, i < 288 → j < 44 → lx i ≠ lm j) {j : Nat} (hj : 7 * j + 7 ≤ L) {σ τ σ' τ' : pST} {z : Int64} (hfX : kX7_inOrder σ (.inr (.inr 0) :: opA 7 (fun d => xs (7 * j + d))) = some (σ', some (.inr (.inl z)))) (hfM : kX8_inOrder τ (.inr (.inr 0) :: opA 7 (fun d => xs (7 * j + d))) = some (τ', some (.inr (.inl z)))) {H : Heap} {locs : List Loc} (hI : lw_I s D lx lm cy σ τ H locs) {ls : Array Slot} (hl : lv_has ls 4 [(0, .ref b), (1, .ref (lx 0)), (2, .ref (lm 0)), (3, .int (nI (7 * j)))]) (K : ∀ H locs, lw_I s D lx lm cy σ' τ' H locs → W p l e room_1 s m #[Value.ref b] below meth c H locs 332 16134 (lw_Z below #[Value.ref b] s) (F0 m 541 ls [])) : W p l e room_1 s m #[Value.ref b] below meth c H locs 332 16134 (lw_Z below #[Value.ref b] s) (F0 m 368 ls []) := by
  obtain ⟨hx, hb, hr, hml, hown, hts, hX, hbl, hlocks, hgv⟩ := C0
  have hA : ∀ q : Nat, s.heap.size ≤ q → (fun q : Nat => s.heap.size ≤ q) q := fun _ h => h
  have hbA : ¬ (fun q : Nat => s.heap.size ≤ q) b := Nat.not_le.mpr hbl
  have hts9 : ∀ w ∈ wsL_law, w.before #[Value.ref b] s = true := fun w h => hts w (wsL_law_in w h)
  obtain ⟨hPX, hPM, hDX, hDM, hS⟩ := hI
  refine lv_aload_n hx hb dL_law_368 rfl (lv_at hl 1 rfl) ?_
  refine lv_aload_n hx hb dL_law_369 rfl (lv_at hl 0 rfl) ?_
  refine lv_iload_n hx hb dL_law_370 rfl (lv_at hl 3 rfl) ?_
  refine lv_iconst (v := nI 1) hx hb dL_law_371 rfl ?_
  refine lv_iadd hx hb dL_law_372 ?_
  rw [nI_add (7 * j) 1]
  refine va_sld hx hb hX hbl hbA hS (vp_in_nI (show 7 * j + 1 < L by omega) (by omega)) dL_law_373 ?_
  rw [nI_clamp (show 7 * j + 1 < 2 ^ 31 by omega)]
  refine lw_call (lay := lx) (i := 0) (vs' := opA 7 (fun d => xs (7 * j + d))) (rest := []) hx hb hml hown hts9 hK shX_N hA (cl_X7_inOrder l) dL_law_374 hfX rfl hl.1 (Nat.le_of_ble_eq_true rfl) (by decide) (by decide) hPX hDX hS (fun H1 locs1 hP1 hD1 hS1 hk1 => ?_)
  have hPM := lw_keep hdis hPM hk1
  generalize H1 = H at hP1 hS1 hPM ⊢
  generalize locs1 = locs at hS1 ⊢
  have hPX := hP1
  have hDX := hD1
  have hS := hS1
  show W p l e room_1 s m #[Value.ref b] below meth c H locs 332 16134 (lw_Z below #[Value.ref b] s) (F0 m 377 ls [.long z])
  refine lv_aload_n hx hb dL_law_377 rfl (lv_at hl 2 rfl) ?_
  refine lv_aload_n hx hb dL_law_378 rfl (lv_at hl 0 rfl) ?_
  refine lv_iload_n hx hb dL_law_379 rfl (lv_at hl 3 rfl) ?_
  refine lv_iconst (v := nI 1) hx hb dL_law_380 rfl ?_
  refine lv_iadd hx hb dL_law_381 ?_
  rw [nI_add (7 * j) 1]
  refine va_sld hx hb hX hbl hbA hS (vp_in_nI (show 7 * j + 1 < L by omega) (by omega)) dL_law_382 ?_
  rw [nI_clamp (show 7 * j + 1 < 2 ^ 31 by omega)]
  refine lw_call (lay := lm) (i := 0) (vs' := opA 7 (fun d => xs (7 * j + d))) (rest := [.long z]) hx hb hml hown hts9 hK shM_N hA (cl_X8_inOrder l) dL_law_383 hfM rfl hl.1 (Nat.le_of_ble_eq_true rfl) (by decide) (by decide) hPM hDM hS (fun H1 locs1 hP1 hD1 hS1 hk1 => ?_)
  have hPX := lw_keep (fun i j hi hj h => hdis j i hj hi h.symm) hPX hk1
  generalize H1 = H at hP1 hS1 hPX ⊢
  generalize locs1 = locs at hS1 ⊢
  show W p l e room_1 s m #[Value.ref b] below meth c H locs 332 16134 (lw_Z below #[Value.ref b] s) (F0 m 386 ls [.long z, .long z])
  refine W.lcmp hx hb dL_law_386 ?_
  rw [show lg_cmp z z = 0 by simp [lg_cmp]]
  refine lv_if_eq (tgt := 541) hx hb dL_law_387 (by decide) (fun _ => ?_) (fun h9 => absurd rfl h9)
  exact K H locs ⟨hPX, hP1, hDX, hD1, hS1⟩
set_option maxHeartbeats 4000000 in
set_option maxRecDepth 100000 in
theorem law_op8 {p : Program} {l : Launch} {e : Env} {s : State} {m : MethodId} {below : List Frame} {meth : Method} {c : Code} {D : va_G} {lx lm : Nat → Nat} {cy : Nat → ClassId} {b L : Nat} {xs : Nat → Int32} (hL : L ≤ 448) (C0 : lw_At p s m meth c b L xs) (hK : va_K D vwCl (pm_T cy) s) (hdis : ∀ i j, i < 288 → j < 44 → lx i ≠ lm j) {j : Nat} (hj : 7 * j + 7 ≤ L) {σ τ σ' τ' : pST} {z : Int32} (hfX : kX7_events σ (.inr (.inr 0) :: opA 8 (fun d => xs (7 * j + d))) = some (σ', some (.inl z))) (hfM : kX8_events τ (.inr (.inr 0) :: opA 8 (fun d => xs (7 * j + d))) = some (τ', some (.inl z))) {H : Heap} {locs : List Loc} (hI : lw_I s D lx lm cy σ τ H locs) {ls : Array Slot} (hl : lv_has ls 4 [(0, .ref b), (1, .ref (lx 0)), (2, .ref (lm 0)), (3, .int (nI (7 * j)))]) (K : ∀ H locs, lw_I s D lx lm cy σ' τ' H locs → W p l e room_1 s m #[Value.ref b] below meth c H locs 332 16134 (lw_Z below #[Value.ref b] s) (F0 m 541 ls [])) : W p l e room_1 s m #[Value.ref b] below meth c H locs 332 16134 (lw_Z below #[Value.ref b] s) (F0 m 392 ls []) := by
  obtain ⟨hx, hb, hr, hml, hown, hts, hX, hbl, hlocks, hgv⟩ := C0
  have hA : ∀ q : Nat, s.heap.size ≤ q → (fun q : Nat => s.heap.size ≤ q) q := fun _ h => h
  have hbA : ¬ (fun q : Nat => s.heap.size ≤ q) b := Nat.not_le.mpr hbl
  have hts9 : ∀ w ∈ wsL_law, w.before #[Value.ref b] s = true := fun w h => hts w (wsL_law_in w h)
  obtain ⟨hPX, hPM, hDX, hDM, hS⟩ := hI
  refine lv_aload_n hx hb dL_law_392 rfl (lv_at hl 1 rfl) ?_
  refine lw_call (lay := lx) (i := 0) (vs' := opA 8 (fun d => xs (7 * j + d))) (rest := []) hx hb hml hown hts9 hK shX_N hA (cl_X7_events l) dL_law_393 hfX rfl hl.1 (Nat.le_of_ble_eq_true rfl) (by decide) (by decide) hPX hDX hS (fun H1 locs1 hP1 hD1 hS1 hk1 => ?_)
  have hPM := lw_keep hdis hPM hk1
  generalize H1 = H at hP1 hS1 hPM ⊢
  generalize locs1 = locs at hS1 ⊢
  have hPX := hP1
  have hDX := hD1
  have hS := hS1
  show W p l e room_1 s m #[Value.ref b] below meth c H locs 332 16134 (lw_Z below #[Value.ref b] s) (F0 m 396 ls [.int z])
  refine lv_aload_n hx hb dL_law_396 rfl (lv_at hl 2 rfl) ?_
  refine lw_call (lay := lm) (i := 0) (vs' := opA 8 (fun d => xs (7 * j + d))) (rest := [.int z]) hx hb hml hown hts9 hK shM_N hA (cl_X8_events l) dL_law_397 hfM rfl hl.1 (Nat.le_of_ble_eq_true rfl) (by decide) (by decide) hPM hDM hS (fun H1 locs1 hP1 hD1 hS1 hk1 => ?_)
  have hPX := lw_keep (fun i j hi hj h => hdis j i hj hi h.symm) hPX hk1
  generalize H1 = H at hP1 hS1 hPX ⊢
  generalize locs1 = locs at hS1 ⊢
  show W p l e room_1 s m #[Value.ref b] below meth c H locs 332 16134 (lw_Z below #[Value.ref b] s) (F0 m 400 ls [.int z, .int z])
  refine lv_icmp_eq (tgt := 541) hx hb dL_law_400 (by decide) (fun _ => ?_) (fun h9 => absurd rfl h9)
  exact K H locs ⟨hPX, hP1, hDX, hD1, hS1⟩
set_option maxHeartbeats 4000000 in
set_option maxRecDepth 100000 in
theorem law_op9 {p : Program} {l : Launch} {e : Env} {s : State} {m : MethodId} {below : List Frame} {meth : Method} {c : Code} {D : va_G} {lx lm : Nat → Nat} {cy : Nat → ClassId} {b L : Nat} {xs : Nat → Int32} (hL : L ≤ 448) (C0 : lw_At p s m meth c b L xs) (hK : va_K D vwCl (pm_T cy) s) (hdis : ∀ i j, i < 288 → j < 44 → lx i ≠ lm j) {j : Nat} (hj : 7 * j + 7 ≤ L) {σ τ σ' τ' : pST} {z : Int64} (hfX : kX7_event σ (.inr (.inr 0) :: opA 9 (fun d => xs (7 * j + d))) = some (σ', some (.inr (.inl z)))) (hfM : kX8_event τ (.inr (.inr 0) :: opA 9 (fun d => xs (7 * j + d))) = some (τ', some (.inr (.inl z)))) {H : Heap} {locs : List Loc} (hI : lw_I s D lx lm cy σ τ H locs) {ls : Array Slot} (hl : lv_has ls 4 [(0, .ref b), (1, .ref (lx 0)), (2, .ref (lm 0)), (3, .int (nI (7 * j)))]) (K : ∀ H locs, lw_I s D lx lm cy σ' τ' H locs → W p l e room_1 s m #[Value.ref b] below meth c H locs 332 16134 (lw_Z below #[Value.ref b] s) (F0 m 541 ls [])) : W p l e room_1 s m #[Value.ref b] below meth c H locs 332 16134 (lw_Z below #[Value.ref b] s) (F0 m 405 ls []) := by
  obtain ⟨hx, hb, hr, hml, hown, hts, hX, hbl, hlocks, hgv⟩ := C0
  have hA : ∀ q : Nat, s.heap.size ≤ q → (fun q : Nat => s.heap.size ≤ q) q := fun _ h => h
  have hbA : ¬ (fun q : Nat => s.heap.size ≤ q) b := Nat.not_le.mpr hbl
  have hts9 : ∀ w ∈ wsL_law, w.before #[Value.ref b] s = true := fun w h => hts w (wsL_law_in w h)
  obtain ⟨hPX, hPM, hDX, hDM, hS⟩ := hI
  refine lv_aload_n hx hb dL_law_405 rfl (lv_at hl 1 rfl) ?_
  refine lv_aload_n hx hb dL_law_406 rfl (lv_at hl 0 rfl) ?_
  refine lv_iload_n hx hb dL_law_407 rfl (lv_at hl 3 rfl) ?_
  refine lv_iconst (v := nI 1) hx hb dL_law_408 rfl ?_
  refine lv_iadd hx hb dL_law_409 ?_
  rw [nI_add (7 * j) 1]
  refine va_sld hx hb hX hbl hbA hS (vp_in_nI (show 7 * j + 1 < L by omega) (by omega)) dL_law_410 ?_
  rw [nI_clamp (show 7 * j + 1 < 2 ^ 31 by omega)]
  refine lv_aload_n hx hb dL_law_411 rfl (lv_at hl 0 rfl) ?_
  refine lv_iload_n hx hb dL_law_412 rfl (lv_at hl 3 rfl) ?_
  refine lv_iconst (v := nI 2) hx hb dL_law_413 rfl ?_
  refine lv_iadd hx hb dL_law_414 ?_
  rw [nI_add (7 * j) 2]
  refine va_sld hx hb hX hbl hbA hS (vp_in_nI (show 7 * j + 2 < L by omega) (by omega)) dL_law_415 ?_
  rw [nI_clamp (show 7 * j + 2 < 2 ^ 31 by omega)]
  refine lw_call (lay := lx) (i := 0) (vs' := opA 9 (fun d => xs (7 * j + d))) (rest := []) hx hb hml hown hts9 hK shX_N hA (cl_X7_event l) dL_law_416 hfX rfl hl.1 (Nat.le_of_ble_eq_true rfl) (by decide) (by decide) hPX hDX hS (fun H1 locs1 hP1 hD1 hS1 hk1 => ?_)
  have hPM := lw_keep hdis hPM hk1
  generalize H1 = H at hP1 hS1 hPM ⊢
  generalize locs1 = locs at hS1 ⊢
  have hPX := hP1
  have hDX := hD1
  have hS := hS1
  show W p l e room_1 s m #[Value.ref b] below meth c H locs 332 16134 (lw_Z below #[Value.ref b] s) (F0 m 419 ls [.long z])
  refine lv_aload_n hx hb dL_law_419 rfl (lv_at hl 2 rfl) ?_
  refine lv_aload_n hx hb dL_law_420 rfl (lv_at hl 0 rfl) ?_
  refine lv_iload_n hx hb dL_law_421 rfl (lv_at hl 3 rfl) ?_
  refine lv_iconst (v := nI 1) hx hb dL_law_422 rfl ?_
  refine lv_iadd hx hb dL_law_423 ?_
  rw [nI_add (7 * j) 1]
  refine va_sld hx hb hX hbl hbA hS (vp_in_nI (show 7 * j + 1 < L by omega) (by omega)) dL_law_424 ?_
  rw [nI_clamp (show 7 * j + 1 < 2 ^ 31 by omega)]
  refine lv_aload_n hx hb dL_law_425 rfl (lv_at hl 0 rfl) ?_
  refine lv_iload_n hx hb dL_law_426 rfl (lv_at hl 3 rfl) ?_
  refine lv_iconst (v := nI 2) hx hb dL_law_427 rfl ?_
  refine lv_iadd hx hb dL_law_428 ?_
  rw [nI_add (7 * j) 2]
  refine va_sld hx hb hX hbl hbA hS (vp_in_nI (show 7 * j + 2 < L by omega) (by omega)) dL_law_429 ?_
  rw [nI_clamp (show 7 * j + 2 < 2 ^ 31 by omega)]
  refine lw_call (lay := lm) (i := 0) (vs' := opA 9 (fun d => xs (7 * j + d))) (rest := [.long z]) hx hb hml hown hts9 hK shM_N hA (cl_X8_event l) dL_law_430 hfM rfl hl.1 (Nat.le_of_ble_eq_true rfl) (by decide) (by decide) hPM hDM hS (fun H1 locs1 hP1 hD1 hS1 hk1 => ?_)
  have hPX := lw_keep (fun i j hi hj h => hdis j i hj hi h.symm) hPX hk1
  generalize H1 = H at hP1 hS1 hPX ⊢
  generalize locs1 = locs at hS1 ⊢
  show W p l e room_1 s m #[Value.ref b] below meth c H locs 332 16134 (lw_Z below #[Value.ref b] s) (F0 m 433 ls [.long z, .long z])
  refine W.lcmp hx hb dL_law_433 ?_
  rw [show lg_cmp z z = 0 by simp [lg_cmp]]
  refine lv_if_eq (tgt := 541) hx hb dL_law_434 (by decide) (fun _ => ?_) (fun h9 => absurd rfl h9)
  exact K H locs ⟨hPX, hP1, hDX, hD1, hS1⟩
set_option maxHeartbeats 4000000 in
set_option maxRecDepth 100000 in
theorem law_op10 {p : Program} {l : Launch} {e : Env} {s : State} {m : MethodId} {below : List Frame} {meth : Method} {c : Code} {D : va_G} {lx lm : Nat → Nat} {cy : Nat → ClassId} {b L : Nat} {xs : Nat → Int32} (hL : L ≤ 448) (C0 : lw_At p s m meth c b L xs) (hK : va_K D vwCl (pm_T cy) s) (hdis : ∀ i j, i < 288 → j < 44 → lx i ≠ lm j) {j : Nat} (hj : 7 * j + 7 ≤ L) {σ τ σ' τ' : pST} {z : Int32} (hfX : kX7_of σ (.inr (.inr 0) :: opA 10 (fun d => xs (7 * j + d))) = some (σ', some (.inl z))) (hfM : kX8_of τ (.inr (.inr 0) :: opA 10 (fun d => xs (7 * j + d))) = some (τ', some (.inl z))) {H : Heap} {locs : List Loc} (hI : lw_I s D lx lm cy σ τ H locs) {ls : Array Slot} (hl : lv_has ls 4 [(0, .ref b), (1, .ref (lx 0)), (2, .ref (lm 0)), (3, .int (nI (7 * j)))]) (K : ∀ H locs, lw_I s D lx lm cy σ' τ' H locs → W p l e room_1 s m #[Value.ref b] below meth c H locs 332 16134 (lw_Z below #[Value.ref b] s) (F0 m 541 ls [])) : W p l e room_1 s m #[Value.ref b] below meth c H locs 332 16134 (lw_Z below #[Value.ref b] s) (F0 m 439 ls []) := by
  obtain ⟨hx, hb, hr, hml, hown, hts, hX, hbl, hlocks, hgv⟩ := C0
  have hA : ∀ q : Nat, s.heap.size ≤ q → (fun q : Nat => s.heap.size ≤ q) q := fun _ h => h
  have hbA : ¬ (fun q : Nat => s.heap.size ≤ q) b := Nat.not_le.mpr hbl
  have hts9 : ∀ w ∈ wsL_law, w.before #[Value.ref b] s = true := fun w h => hts w (wsL_law_in w h)
  obtain ⟨hPX, hPM, hDX, hDM, hS⟩ := hI
  refine lv_aload_n hx hb dL_law_439 rfl (lv_at hl 1 rfl) ?_
  refine lv_aload_n hx hb dL_law_440 rfl (lv_at hl 0 rfl) ?_
  refine lv_iload_n hx hb dL_law_441 rfl (lv_at hl 3 rfl) ?_
  refine lv_iconst (v := nI 1) hx hb dL_law_442 rfl ?_
  refine lv_iadd hx hb dL_law_443 ?_
  rw [nI_add (7 * j) 1]
  refine va_sld hx hb hX hbl hbA hS (vp_in_nI (show 7 * j + 1 < L by omega) (by omega)) dL_law_444 ?_
  rw [nI_clamp (show 7 * j + 1 < 2 ^ 31 by omega)]
  refine lv_aload_n hx hb dL_law_445 rfl (lv_at hl 0 rfl) ?_
  refine lv_iload_n hx hb dL_law_446 rfl (lv_at hl 3 rfl) ?_
  refine lv_iconst (v := nI 2) hx hb dL_law_447 rfl ?_
  refine lv_iadd hx hb dL_law_448 ?_
  rw [nI_add (7 * j) 2]
  refine va_sld hx hb hX hbl hbA hS (vp_in_nI (show 7 * j + 2 < L by omega) (by omega)) dL_law_449 ?_
  rw [nI_clamp (show 7 * j + 2 < 2 ^ 31 by omega)]
  refine lw_call (lay := lx) (i := 0) (vs' := opA 10 (fun d => xs (7 * j + d))) (rest := []) hx hb hml hown hts9 hK shX_N hA (cl_X7_of l) dL_law_450 hfX rfl hl.1 (Nat.le_of_ble_eq_true rfl) (by decide) (by decide) hPX hDX hS (fun H1 locs1 hP1 hD1 hS1 hk1 => ?_)
  have hPM := lw_keep hdis hPM hk1
  generalize H1 = H at hP1 hS1 hPM ⊢
  generalize locs1 = locs at hS1 ⊢
  have hPX := hP1
  have hDX := hD1
  have hS := hS1
  show W p l e room_1 s m #[Value.ref b] below meth c H locs 332 16134 (lw_Z below #[Value.ref b] s) (F0 m 453 ls [.int z])
  refine lv_aload_n hx hb dL_law_453 rfl (lv_at hl 2 rfl) ?_
  refine lv_aload_n hx hb dL_law_454 rfl (lv_at hl 0 rfl) ?_
  refine lv_iload_n hx hb dL_law_455 rfl (lv_at hl 3 rfl) ?_
  refine lv_iconst (v := nI 1) hx hb dL_law_456 rfl ?_
  refine lv_iadd hx hb dL_law_457 ?_
  rw [nI_add (7 * j) 1]
  refine va_sld hx hb hX hbl hbA hS (vp_in_nI (show 7 * j + 1 < L by omega) (by omega)) dL_law_458 ?_
  rw [nI_clamp (show 7 * j + 1 < 2 ^ 31 by omega)]
  refine lv_aload_n hx hb dL_law_459 rfl (lv_at hl 0 rfl) ?_
  refine lv_iload_n hx hb dL_law_460 rfl (lv_at hl 3 rfl) ?_
  refine lv_iconst (v := nI 2) hx hb dL_law_461 rfl ?_
  refine lv_iadd hx hb dL_law_462 ?_
  rw [nI_add (7 * j) 2]
  refine va_sld hx hb hX hbl hbA hS (vp_in_nI (show 7 * j + 2 < L by omega) (by omega)) dL_law_463 ?_
  rw [nI_clamp (show 7 * j + 2 < 2 ^ 31 by omega)]
  refine lw_call (lay := lm) (i := 0) (vs' := opA 10 (fun d => xs (7 * j + d))) (rest := [.int z]) hx hb hml hown hts9 hK shM_N hA (cl_X8_of l) dL_law_464 hfM rfl hl.1 (Nat.le_of_ble_eq_true rfl) (by decide) (by decide) hPM hDM hS (fun H1 locs1 hP1 hD1 hS1 hk1 => ?_)
  have hPX := lw_keep (fun i j hi hj h => hdis j i hj hi h.symm) hPX hk1
  generalize H1 = H at hP1 hS1 hPX ⊢
  generalize locs1 = locs at hS1 ⊢
  show W p l e room_1 s m #[Value.ref b] below meth c H locs 332 16134 (lw_Z below #[Value.ref b] s) (F0 m 467 ls [.int z, .int z])
  refine lv_icmp_eq (tgt := 541) hx hb dL_law_467 (by decide) (fun _ => ?_) (fun h9 => absurd rfl h9)
  exact K H locs ⟨hPX, hP1, hDX, hD1, hS1⟩
set_option maxHeartbeats 4000000 in
set_option maxRecDepth 100000 in
theorem law_op11 {p : Program} {l : Launch} {e : Env} {s : State} {m : MethodId} {below : List Frame} {meth : Method} {c : Code} {D : va_G} {lx lm : Nat → Nat} {cy : Nat → ClassId} {b L : Nat} {xs : Nat → Int32} (hL : L ≤ 448) (C0 : lw_At p s m meth c b L xs) (hK : va_K D vwCl (pm_T cy) s) (hdis : ∀ i j, i < 288 → j < 44 → lx i ≠ lm j) {j : Nat} (hj : 7 * j + 7 ≤ L) {σ τ σ' τ' : pST} {z : Int32} (hfX : kX7_conflicts σ (.inr (.inr 0) :: opA 11 (fun d => xs (7 * j + d))) = some (σ', some (.inl z))) (hfM : kX8_conflicts τ (.inr (.inr 0) :: opA 11 (fun d => xs (7 * j + d))) = some (τ', some (.inl z))) {H : Heap} {locs : List Loc} (hI : lw_I s D lx lm cy σ τ H locs) {ls : Array Slot} (hl : lv_has ls 4 [(0, .ref b), (1, .ref (lx 0)), (2, .ref (lm 0)), (3, .int (nI (7 * j)))]) (K : ∀ H locs, lw_I s D lx lm cy σ' τ' H locs → W p l e room_1 s m #[Value.ref b] below meth c H locs 332 16134 (lw_Z below #[Value.ref b] s) (F0 m 541 ls [])) : W p l e room_1 s m #[Value.ref b] below meth c H locs 332 16134 (lw_Z below #[Value.ref b] s) (F0 m 472 ls []) := by
  obtain ⟨hx, hb, hr, hml, hown, hts, hX, hbl, hlocks, hgv⟩ := C0
  have hA : ∀ q : Nat, s.heap.size ≤ q → (fun q : Nat => s.heap.size ≤ q) q := fun _ h => h
  have hbA : ¬ (fun q : Nat => s.heap.size ≤ q) b := Nat.not_le.mpr hbl
  have hts9 : ∀ w ∈ wsL_law, w.before #[Value.ref b] s = true := fun w h => hts w (wsL_law_in w h)
  obtain ⟨hPX, hPM, hDX, hDM, hS⟩ := hI
  refine lv_aload_n hx hb dL_law_472 rfl (lv_at hl 1 rfl) ?_
  refine lw_call (lay := lx) (i := 0) (vs' := opA 11 (fun d => xs (7 * j + d))) (rest := []) hx hb hml hown hts9 hK shX_N hA (cl_X7_conflicts l) dL_law_473 hfX rfl hl.1 (Nat.le_of_ble_eq_true rfl) (by decide) (by decide) hPX hDX hS (fun H1 locs1 hP1 hD1 hS1 hk1 => ?_)
  have hPM := lw_keep hdis hPM hk1
  generalize H1 = H at hP1 hS1 hPM ⊢
  generalize locs1 = locs at hS1 ⊢
  have hPX := hP1
  have hDX := hD1
  have hS := hS1
  show W p l e room_1 s m #[Value.ref b] below meth c H locs 332 16134 (lw_Z below #[Value.ref b] s) (F0 m 476 ls [.int z])
  refine lv_aload_n hx hb dL_law_476 rfl (lv_at hl 2 rfl) ?_
  refine lw_call (lay := lm) (i := 0) (vs' := opA 11 (fun d => xs (7 * j + d))) (rest := [.int z]) hx hb hml hown hts9 hK shM_N hA (cl_X8_conflicts l) dL_law_477 hfM rfl hl.1 (Nat.le_of_ble_eq_true rfl) (by decide) (by decide) hPM hDM hS (fun H1 locs1 hP1 hD1 hS1 hk1 => ?_)
  have hPX := lw_keep (fun i j hi hj h => hdis j i hj hi h.symm) hPX hk1
  generalize H1 = H at hP1 hS1 hPX ⊢
  generalize locs1 = locs at hS1 ⊢
  show W p l e room_1 s m #[Value.ref b] below meth c H locs 332 16134 (lw_Z below #[Value.ref b] s) (F0 m 480 ls [.int z, .int z])
  refine lv_icmp_eq (tgt := 541) hx hb dL_law_480 (by decide) (fun _ => ?_) (fun h9 => absurd rfl h9)
  exact K H locs ⟨hPX, hP1, hDX, hD1, hS1⟩
set_option maxHeartbeats 4000000 in
set_option maxRecDepth 100000 in
theorem law_op12 {p : Program} {l : Launch} {e : Env} {s : State} {m : MethodId} {below : List Frame} {meth : Method} {c : Code} {D : va_G} {lx lm : Nat → Nat} {cy : Nat → ClassId} {b L : Nat} {xs : Nat → Int32} (hL : L ≤ 448) (C0 : lw_At p s m meth c b L xs) (hK : va_K D vwCl (pm_T cy) s) (hdis : ∀ i j, i < 288 → j < 44 → lx i ≠ lm j) {j : Nat} (hj : 7 * j + 7 ≤ L) {σ τ σ' τ' : pST} {z : Int32} (hfX : kX7_conflict σ (.inr (.inr 0) :: opA 12 (fun d => xs (7 * j + d))) = some (σ', some (.inl z))) (hfM : kX8_conflict τ (.inr (.inr 0) :: opA 12 (fun d => xs (7 * j + d))) = some (τ', some (.inl z))) {H : Heap} {locs : List Loc} (hI : lw_I s D lx lm cy σ τ H locs) {ls : Array Slot} (hl : lv_has ls 4 [(0, .ref b), (1, .ref (lx 0)), (2, .ref (lm 0)), (3, .int (nI (7 * j)))]) (K : ∀ H locs, lw_I s D lx lm cy σ' τ' H locs → W p l e room_1 s m #[Value.ref b] below meth c H locs 332 16134 (lw_Z below #[Value.ref b] s) (F0 m 541 ls [])) : W p l e room_1 s m #[Value.ref b] below meth c H locs 332 16134 (lw_Z below #[Value.ref b] s) (F0 m 485 ls []) := by
  obtain ⟨hx, hb, hr, hml, hown, hts, hX, hbl, hlocks, hgv⟩ := C0
  have hA : ∀ q : Nat, s.heap.size ≤ q → (fun q : Nat => s.heap.size ≤ q) q := fun _ h => h
  have hbA : ¬ (fun q : Nat => s.heap.size ≤ q) b := Nat.not_le.mpr hbl
  have hts9 : ∀ w ∈ wsL_law, w.before #[Value.ref b] s = true := fun w h => hts w (wsL_law_in w h)
  obtain ⟨hPX, hPM, hDX, hDM, hS⟩ := hI
  refine lv_aload_n hx hb dL_law_485 rfl (lv_at hl 1 rfl) ?_
  refine lv_aload_n hx hb dL_law_486 rfl (lv_at hl 0 rfl) ?_
  refine lv_iload_n hx hb dL_law_487 rfl (lv_at hl 3 rfl) ?_
  refine lv_iconst (v := nI 1) hx hb dL_law_488 rfl ?_
  refine lv_iadd hx hb dL_law_489 ?_
  rw [nI_add (7 * j) 1]
  refine va_sld hx hb hX hbl hbA hS (vp_in_nI (show 7 * j + 1 < L by omega) (by omega)) dL_law_490 ?_
  rw [nI_clamp (show 7 * j + 1 < 2 ^ 31 by omega)]
  refine lv_aload_n hx hb dL_law_491 rfl (lv_at hl 0 rfl) ?_
  refine lv_iload_n hx hb dL_law_492 rfl (lv_at hl 3 rfl) ?_
  refine lv_iconst (v := nI 2) hx hb dL_law_493 rfl ?_
  refine lv_iadd hx hb dL_law_494 ?_
  rw [nI_add (7 * j) 2]
  refine va_sld hx hb hX hbl hbA hS (vp_in_nI (show 7 * j + 2 < L by omega) (by omega)) dL_law_495 ?_
  rw [nI_clamp (show 7 * j + 2 < 2 ^ 31 by omega)]
  refine lw_call (lay := lx) (i := 0) (vs' := opA 12 (fun d => xs (7 * j + d))) (rest := []) hx hb hml hown hts9 hK shX_N hA (cl_X7_conflict l) dL_law_496 hfX rfl hl.1 (Nat.le_of_ble_eq_true rfl) (by decide) (by decide) hPX hDX hS (fun H1 locs1 hP1 hD1 hS1 hk1 => ?_)
  have hPM := lw_keep hdis hPM hk1
  generalize H1 = H at hP1 hS1 hPM ⊢
  generalize locs1 = locs at hS1 ⊢
  have hPX := hP1
  have hDX := hD1
  have hS := hS1
  show W p l e room_1 s m #[Value.ref b] below meth c H locs 332 16134 (lw_Z below #[Value.ref b] s) (F0 m 499 ls [.int z])
  refine lv_aload_n hx hb dL_law_499 rfl (lv_at hl 2 rfl) ?_
  refine lv_aload_n hx hb dL_law_500 rfl (lv_at hl 0 rfl) ?_
  refine lv_iload_n hx hb dL_law_501 rfl (lv_at hl 3 rfl) ?_
  refine lv_iconst (v := nI 1) hx hb dL_law_502 rfl ?_
  refine lv_iadd hx hb dL_law_503 ?_
  rw [nI_add (7 * j) 1]
  refine va_sld hx hb hX hbl hbA hS (vp_in_nI (show 7 * j + 1 < L by omega) (by omega)) dL_law_504 ?_
  rw [nI_clamp (show 7 * j + 1 < 2 ^ 31 by omega)]
  refine lv_aload_n hx hb dL_law_505 rfl (lv_at hl 0 rfl) ?_
  refine lv_iload_n hx hb dL_law_506 rfl (lv_at hl 3 rfl) ?_
  refine lv_iconst (v := nI 2) hx hb dL_law_507 rfl ?_
  refine lv_iadd hx hb dL_law_508 ?_
  rw [nI_add (7 * j) 2]
  refine va_sld hx hb hX hbl hbA hS (vp_in_nI (show 7 * j + 2 < L by omega) (by omega)) dL_law_509 ?_
  rw [nI_clamp (show 7 * j + 2 < 2 ^ 31 by omega)]
  refine lw_call (lay := lm) (i := 0) (vs' := opA 12 (fun d => xs (7 * j + d))) (rest := [.int z]) hx hb hml hown hts9 hK shM_N hA (cl_X8_conflict l) dL_law_510 hfM rfl hl.1 (Nat.le_of_ble_eq_true rfl) (by decide) (by decide) hPM hDM hS (fun H1 locs1 hP1 hD1 hS1 hk1 => ?_)
  have hPX := lw_keep (fun i j hi hj h => hdis j i hj hi h.symm) hPX hk1
  generalize H1 = H at hP1 hS1 hPX ⊢
  generalize locs1 = locs at hS1 ⊢
  show W p l e room_1 s m #[Value.ref b] below meth c H locs 332 16134 (lw_Z below #[Value.ref b] s) (F0 m 513 ls [.int z, .int z])
  refine lv_icmp_eq (tgt := 541) hx hb dL_law_513 (by decide) (fun _ => ?_) (fun h9 => absurd rfl h9)
  exact K H locs ⟨hPX, hP1, hDX, hD1, hS1⟩
set_option maxHeartbeats 4000000 in
set_option maxRecDepth 100000 in
theorem law_op13 {p : Program} {l : Launch} {e : Env} {s : State} {m : MethodId} {below : List Frame} {meth : Method} {c : Code} {D : va_G} {lx lm : Nat → Nat} {cy : Nat → ClassId} {b L : Nat} {xs : Nat → Int32} (hL : L ≤ 448) (C0 : lw_At p s m meth c b L xs) (hK : va_K D vwCl (pm_T cy) s) (hdis : ∀ i j, i < 288 → j < 44 → lx i ≠ lm j) {j : Nat} (hj : 7 * j + 7 ≤ L) {σ τ σ' τ' : pST} {z : Int32} (hfX : kX7_told σ (.inr (.inr 0) :: opA 13 (fun d => xs (7 * j + d))) = some (σ', some (.inl z))) (hfM : kX8_told τ (.inr (.inr 0) :: opA 13 (fun d => xs (7 * j + d))) = some (τ', some (.inl z))) {H : Heap} {locs : List Loc} (hI : lw_I s D lx lm cy σ τ H locs) {ls : Array Slot} (hl : lv_has ls 4 [(0, .ref b), (1, .ref (lx 0)), (2, .ref (lm 0)), (3, .int (nI (7 * j)))]) (K : ∀ H locs, lw_I s D lx lm cy σ' τ' H locs → W p l e room_1 s m #[Value.ref b] below meth c H locs 332 16134 (lw_Z below #[Value.ref b] s) (F0 m 541 ls [])) : W p l e room_1 s m #[Value.ref b] below meth c H locs 332 16134 (lw_Z below #[Value.ref b] s) (F0 m 518 ls []) := by
  obtain ⟨hx, hb, hr, hml, hown, hts, hX, hbl, hlocks, hgv⟩ := C0
  have hA : ∀ q : Nat, s.heap.size ≤ q → (fun q : Nat => s.heap.size ≤ q) q := fun _ h => h
  have hbA : ¬ (fun q : Nat => s.heap.size ≤ q) b := Nat.not_le.mpr hbl
  have hts9 : ∀ w ∈ wsL_law, w.before #[Value.ref b] s = true := fun w h => hts w (wsL_law_in w h)
  obtain ⟨hPX, hPM, hDX, hDM, hS⟩ := hI
  refine lv_aload_n hx hb dL_law_518 rfl (lv_at hl 1 rfl) ?_
  refine lv_aload_n hx hb dL_law_519 rfl (lv_at hl 0 rfl) ?_
  refine lv_iload_n hx hb dL_law_520 rfl (lv_at hl 3 rfl) ?_
  refine lv_iconst (v := nI 1) hx hb dL_law_521 rfl ?_
  refine lv_iadd hx hb dL_law_522 ?_
  rw [nI_add (7 * j) 1]
  refine va_sld hx hb hX hbl hbA hS (vp_in_nI (show 7 * j + 1 < L by omega) (by omega)) dL_law_523 ?_
  rw [nI_clamp (show 7 * j + 1 < 2 ^ 31 by omega)]
  refine lw_call (lay := lx) (i := 0) (vs' := opA 13 (fun d => xs (7 * j + d))) (rest := []) hx hb hml hown hts9 hK shX_N hA (cl_X7_told l) dL_law_524 hfX rfl hl.1 (Nat.le_of_ble_eq_true rfl) (by decide) (by decide) hPX hDX hS (fun H1 locs1 hP1 hD1 hS1 hk1 => ?_)
  have hPM := lw_keep hdis hPM hk1
  generalize H1 = H at hP1 hS1 hPM ⊢
  generalize locs1 = locs at hS1 ⊢
  have hPX := hP1
  have hDX := hD1
  have hS := hS1
  show W p l e room_1 s m #[Value.ref b] below meth c H locs 332 16134 (lw_Z below #[Value.ref b] s) (F0 m 527 ls [.int z])
  refine lv_aload_n hx hb dL_law_527 rfl (lv_at hl 2 rfl) ?_
  refine lv_aload_n hx hb dL_law_528 rfl (lv_at hl 0 rfl) ?_
  refine lv_iload_n hx hb dL_law_529 rfl (lv_at hl 3 rfl) ?_
  refine lv_iconst (v := nI 1) hx hb dL_law_530 rfl ?_
  refine lv_iadd hx hb dL_law_531 ?_
  rw [nI_add (7 * j) 1]
  refine va_sld hx hb hX hbl hbA hS (vp_in_nI (show 7 * j + 1 < L by omega) (by omega)) dL_law_532 ?_
  rw [nI_clamp (show 7 * j + 1 < 2 ^ 31 by omega)]
  refine lw_call (lay := lm) (i := 0) (vs' := opA 13 (fun d => xs (7 * j + d))) (rest := [.int z]) hx hb hml hown hts9 hK shM_N hA (cl_X8_told l) dL_law_533 hfM rfl hl.1 (Nat.le_of_ble_eq_true rfl) (by decide) (by decide) hPM hDM hS (fun H1 locs1 hP1 hD1 hS1 hk1 => ?_)
  have hPX := lw_keep (fun i j hi hj h => hdis j i hj hi h.symm) hPX hk1
  generalize H1 = H at hP1 hS1 hPX ⊢
  generalize locs1 = locs at hS1 ⊢
  show W p l e room_1 s m #[Value.ref b] below meth c H locs 332 16134 (lw_Z below #[Value.ref b] s) (F0 m 536 ls [.int z, .int z])
  refine lv_icmp_eq (tgt := 541) hx hb dL_law_536 (by decide) (fun _ => ?_) (fun h9 => absurd rfl h9)
  exact K H locs ⟨hPX, hP1, hDX, hD1, hS1⟩
