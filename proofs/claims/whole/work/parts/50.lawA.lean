/-! THE CLAIM OUT OF ONE WALK OF THE LAW'S BODY. Your part is whole_start (and what it stands on); all else here is the same for every law, but numbers. -/
def R_law : String := "ParallelUndoLaw"
def lw_P (b : Addr) (xs : List Int32) (args : Array Value) (s : State) : Prop := args = #[.ref b] ∧ s.IntsAt b xs ∧ xs.length ≤ 448 ∧ (Jvm.Cond.and given_1 narrow_1).before args s = true
def lw_Q (_ : Array Value) (s : State) (o : Outcome) (t : State) : Prop := o = .returned (some (.int 1)) ∧ Framed s o t [] 600000 7302250
def lw_Z (below : List Frame) (a : Array Value) (s : State) : State → Prop := fun t => ∃ o, t.status = .running ∧ Ended t below o ∧ lw_Q a s o t
/-- the law's own end, with 1 on the stack, nothing written that was there before, its room as the claim has it -/
theorem lw_ret {p : Program} {l : Launch} {e : Env} {s : State} {m : MethodId} {below : List Frame} {meth : Method} {c : Code} {b : Nat} (hx : p.tables.exec = Jvm.exec) (hb : c.code = code) (hr : meth.sig.returnType = ret) (hlocks : meth.locks = false) {pc : Nat} {H : Heap} {ls : Array Slot} (hdg : decode code pc = .ok (.ireturn, 1)) : W p l e room_1 s m #[Value.ref b] below meth c H [] 600000 7302250 (lw_Z below #[Value.ref b] s) (F0 m pc ls [.int 1]) := by
  intro T hT X
  obtain ⟨fs, hret, hrun, hended, hW, hframe⟩ := X.leave (v := some (.int 1)) (hlocks := hlocks) (fun h => by rw [hr] at h; cases h)
  have hmeth' : T.vm.method? m = some meth := X.method'
  refine ⟨T.setFrames fs, ?_, .returned (some (.int 1)), hrun, hended, rfl, ⟨_, rfl⟩, hW, hframe⟩
  jvm_step X.here [X.here.top, hx, hb, hdg, hmeth', hr, ret, narrow_b1]
  (try refine ⟨rfl, ?_⟩); (try refine ⟨rfl, ?_⟩)
  first | (intro acts; rw [hret _ acts rfl rfl rfl]) | rw [hret _ _ rfl rfl rfl]
  exact Steps.refl _
/-- what holds at the law's entry: the machine, the code, the tables' words (any of lw_tbl by 'hts w (by decide +kernel)'), the script of L ints xs at the cell b, what the Statement gives of the start (any of its parts by flat_of_before) -/
def lw_At (p : Program) (s : State) (m : MethodId) (meth : Method) (c : Code) (b L : Nat) (xs : Nat → Int32) : Prop :=
  p.tables.exec = Jvm.exec ∧ c.code = code ∧ meth.sig.returnType = ret ∧ c.maxLocals = 4 ∧ s.vm.findClass R_law = some m.cls ∧ (∀ w ∈ lw_tbl, w.before #[Value.ref b] s = true) ∧ va_X b L xs s s.heap ∧ b < s.heap.size ∧ meth.locks = false ∧ (Jvm.Cond.and given_1 narrow_1).before #[Value.ref b] s = true
/-! ===== the law: its parts, and what is owed of the pure functions ===== -/
def lw_lg (hi lo : Int32) : Int64 := (hi.toInt64 <<< ((nI 32).toInt64 &&& 63)) ||| (lo.toInt64 &&& 4294967295)
noncomputable def opX (k : Nat) : pFN := match k with
  | 0 => kX7_call | 1 => kX7_act | 2 => kX7_clear | 3 => kX7_leaf | 4 => kX7_bound | 5 => kX7_run | 6 => kX7_at | 7 => kX7_inOrder | 8 => kX7_events | 9 => kX7_event | 10 => kX7_of | 11 => kX7_conflicts | 12 => kX7_conflict | _ => kX7_told
noncomputable def opM (k : Nat) : pFN := match k with
  | 0 => kX8_call | 1 => kX8_act | 2 => kX8_clear | 3 => kX8_leaf | 4 => kX8_bound | 5 => kX8_run | 6 => kX8_at | 7 => kX8_inOrder | 8 => kX8_events | 9 => kX8_event | 10 => kX8_of | 11 => kX8_conflicts | 12 => kX8_conflict | _ => kX8_told
def opA (k : Nat) (a : Nat → Int32) : List pSV := match k with
  | 0 => [] | 1 => [.inl (a 1), .inl (a 2), .inl (a 3), .inl (a 4), .inr (.inl (lw_lg (a 5) (a 6)))] | 2 => [] | 3 => [.inl (a 1), .inr (.inl (lw_lg (a 2) (a 3)))] | 4 => [.inl (a 1)] | 5 => [.inl (a 1), .inl (a 2)] | 6 => [.inl (a 1)] | 7 => [.inl (a 1)] | 8 => [] | 9 => [.inl (a 1), .inl (a 2)] | 10 => [.inl (a 1), .inl (a 2)] | 11 => [] | 12 => [.inl (a 1), .inl (a 2)] | _ => [.inl (a 1)]
def opT (k : Nat) (r : pSV) : Prop := if k = 6 ∨ k = 7 ∨ k = 9 then ∃ x, r = .inr (.inl x) else ∃ x, r = .inl x
/-- what is owed of the pure functions: an invariant of the two stores that every op keeps, both answering alike -/
def PureStep (Inv : Nat → pST → pST → Prop) : Prop := ∀ (j k : Nat) (σ τ : pST) (a : Nat → Int32), j < 64 → k < 14 → Inv j σ τ → ∃ (σ' τ' : pST) (r : pSV), opX k σ (.inr (.inr 0) :: opA k a) = some (σ', some r) ∧ opM k τ (.inr (.inr 0) :: opA k a) = some (τ', some r) ∧ opT k r ∧ Inv (j + 1) σ' τ'
section LWA
variable {p : Program} {l : Launch} {e : Env} {R : Room} {s : State} {m : MethodId} {args : Array Value} {below : List Frame} {meth : Method} {c : Code} {Q : State → Prop}
variable {D : va_G} {lay : Nat → Nat} {cy : Nat → ClassId} {sh : pSH} {N nL nc ns : Nat} {A : Nat → Prop} {cc : ByteArray} {pc : Nat} {H : Heap} {locs : List Loc} {lsA : Array Slot}
variable {own : String} {Ts Ns : List Cond}
theorem lw_call {σ σ' : pST} {idx a ci i : Nat} {f : pFN} {vs' : List pSV} {r : Option pSV} {rest : List Value} (hx : p.tables.exec = Jvm.exec) (hb : c.code = cc) (hml : c.maxLocals = nL) (hown : s.vm.findClass own = some m.cls) (hts : ∀ w ∈ Ts, w.before args s = true) (hK : va_K D vwCl (pm_T cy) s) (hN : ∀ i, N ≤ i → sh i = .inr (9, 0)) (hA : ∀ q, s.heap.size ≤ q → A q) (hC : pm_CalV l Ts R own sh N idx a ci f) (hd : decode cc pc = .ok (.invokevirtual idx, 3)) (hf : f σ (.inr (.inr i) :: vs') = some (σ', r)) (hlen : vs'.length + 1 = a) (hz : lsA.size = nL) (hcs : (rest.map fun v => v.category).sum ≤ 8) (hRc : nc ≤ R.cells) (hRs : ns ≤ R.slots) (hP : va_P D vwCl (pm_W lay cy sh N σ) H) (hD : va_D A (pm_W lay cy sh N σ)) (hS : va_S A s.heap H locs)
    (kk : ∀ (H1 : Heap) (locs1 : List Loc), va_P D vwCl (pm_W lay cy sh N σ') H1 → va_D A (pm_W lay cy sh N σ') → va_S A s.heap H1 locs1 → (∀ q, q < H.size → ¬ va_A (pm_W lay cy sh N σ) H.size q → H1[q]? = H[q]?) → W p l e R s m args below meth c H1 locs1 nc ns Q (F0 m (pc + 3) lsA ((r.map (pm_v lay)).toList ++ rest))) : W p l e R s m args below meth c H locs nc ns Q (F0 m pc lsA ((vs'.map (pm_v lay)).reverse ++ .ref (lay i) :: rest)) := by
  obtain ⟨y, ws1, ws1', rm1, bytes, maxL, ret, qc, hCon, hrecv, hcl, hG, hw, hrc, hrs, hd9, hR⟩ := hC
  obtain ⟨i9, vs9, hvs, hsh⟩ := hrecv _ _ _ hf
  cases hvs
  have hM := hCon D lay cy H.size σ _ σ' r hf
  have hrow : (parseMethodDescriptor y.desc).map (fun d => d.parameters.length) = some vs'.length := by
    have h9 := hd9.2.2.2
    cases hp : parseMethodDescriptor y.desc with
    | none => rw [hp] at h9; cases h9
    | some d =>
      rw [hp] at h9
      simp only [Option.map_some, Option.some.injEq] at h9 ⊢
      omega
  have hrun := va_runV (p := p) (l := l) (e := e) (R := R) (s := s) (m := m) (args := args) (below := below) (meth := meth) (c := c) (H := H) (locs := locs) (cells := nc) (slots := ns) (g := F0 m pc lsA ((vs'.map (pm_v lay)).reverse ++ .ref (lay i) :: rest)) (As := vs'.map (pm_v lay)) (rest := rest) (b := lay i) ⟨hx, hb, hml, hown, hts⟩ hM (cwV vs'.length hts hG hw hrc hrs ⟨hd9.1, hd9.2.1, hd9.2.2.1, hrow⟩ hR) ⟨pm_blind (vs := .inr (.inr i) :: vs'), va_recv hK hP hcl (pm_W_obj (pm_lt hN (by rw [hsh]; simp)) hsh), fun U hU hW => ⟨rfl, by rw [hU], by rw [hU]; exact hP, va_K.moved hW.alike hK, pm_weak hD⟩⟩ rfl (by simp) hz rfl (lv_room hcs) hd ⟨by omega, by omega⟩
  intro T hT X
  obtain ⟨v, st₀, t, T', L, h0, X', hL, e1, e2, ⟨⟨hv, hp⟩, hzz, hk⟩, st⟩ := hrun T hT X
  cases hv
  rw [h0] at hzz hk
  have hFA := pm_free hD hS hA
  obtain ⟨t2, a1, b1⟩ := kk T'.heap (locs ++ L) (by rw [e1]; exact hp) (pm_D σ' hD)
    ⟨Nat.le_trans hS.1 (by rw [e1]; exact hzz), fun q h1 h2 => by rw [e1, hk q (Nat.lt_of_lt_of_le h1 hS.1) (fun z => h2 (hFA q z))]; exact hS.2.1 q h1 h2, fun q hq => by
      rcases List.mem_append.mp hq with h | h
      · exact hS.2.2 q h
      · exact hFA _ (hL q h)⟩ (fun q h1 h2 => by rw [e1]; exact hk q h1 h2) T' rfl X'
  exact ⟨t2, st t2 a1, b1⟩
/-- a new object and its constructor, over the cells made so far -/
theorem lw_make {cs cs' : List dC} {idx idx2 a c1 s1 ci : Nat} {f : dF} {rest : List Value} (hx : p.tables.exec = Jvm.exec) (hb : c.code = cc) (hml : c.maxLocals = nL) (hown : s.vm.findClass own = some m.cls) (hts : ∀ w ∈ Ts, w.before args s = true) (hK : va_K D vwCl (pm_T cy) s) (hA : ∀ q, s.heap.size ≤ q → A q) (hns : ∀ w ∈ Ns, va_Nw w s ∧ dm_sm w) (hnw : dm_nwok Ts own idx ci) (hC : dm_Cal l Ts Ns R own idx2 (1, a, f, c1, s1)) (ha : a = 1) (d1 : decode cc pc = .ok (.new idx, 3)) (d2 : decode cc (pc + 3) = .ok (.dup, 1)) (d3 : decode cc (pc + 4) = .ok (.invokespecial idx2, 3)) (hcl : dm_cl cs = true) (hf : f (cs ++ [.inl (ci, dm_df ci)]) [.inr (.inr cs.length)] = some cs') (hz : lsA.size = nL) (hcs : (rest.map fun v => v.category).sum ≤ 6) (hRc : nc + 1 + c1 ≤ R.cells) (hRs : ns + (pm_fk ci).length + s1 ≤ R.slots) (hP : va_P D vwCl (dm_W lay cy cs) H) (hD : va_D A (dm_W lay cy cs)) (hS : va_S A s.heap H locs)
    (kk : ∀ (H1 : Heap) (locs1 : List Loc) (lay1 : Nat → Nat), (∀ i, i < cs.length → lay1 i = lay i) → va_P D vwCl (dm_W lay1 cy cs') H1 → va_D A (dm_W lay1 cy cs') → va_S A s.heap H1 locs1 → W p l e R s m args below meth c H1 locs1 (nc + 1 + c1) (ns + (pm_fk ci).length + s1) Q (F0 m (pc + 7) lsA (.ref (lay1 cs.length) :: rest))) : W p l e R s m args below meth c H locs nc ns Q (F0 m pc lsA rest) := by
  subst ha
  obtain ⟨⟨C, T, n⟩, hc, w1, w2, w3, w4⟩ := hnw
  have hlen : (pm_fk ci).length = n := (pm_cl ci _ hc).1
  obtain ⟨-, ty, hty, hdef⟩ := dm_clA ci _ hc
  rw [hlen] at hRs kk
  refine va_new (ci := ci) (fs := (dm_df ci).map (dm_f lay)) hx hb hts w4 ty hty hown (hts _ w1) (hts _ w2) (hts _ w3) hK hP hD hS hA hc (hdef lay) (by omega) (by show ns + n ≤ _; omega) d1 (fun q H1 hP1 hD1 hS1 => ?_)
  have hE : dm_E lay cy (.inl (ci, dm_df ci)) = .inr (ci, (dm_df ci).map (dm_f lay)) := rfl
  have hg := dm_grow (lay := lay) (cy := cy) (c := .inl (ci, dm_df ci)) (q := q) hcl (fun l1 l2 => by
    show Sum.inr (ci, (dm_df ci).map (dm_f l1)) = Sum.inr (ci, (dm_df ci).map (dm_f l2))
    congr 2
    apply List.map_congr_left
    intro v hv
    obtain ⟨k, -, rfl⟩ := List.mem_map.mp hv
    split
    · rfl
    · split <;> rfl)
  rw [← hE, hg] at hP1 hD1
  refine lv_dup hx hb d2 rfl ?_
  generalize hlay : va_up lay cs.length q = lay1 at hP1 hD1
  have hq : lay1 cs.length = q := by rw [← hlay]; exact dm_up
  have hl1 : ∀ i, i < cs.length → lay1 i = lay i := fun i hi => by rw [← hlay]; exact dm_upn hi
  rw [← hq]
  obtain ⟨y, ws1, ws1', Ns1, rm1, bytes, maxL, hCon, hprop, hG, hw, hrc, hrs, hini, hinst, hy1, hd9, hR, hN1, hlk⟩ := hC
  have hM := hCon D lay1 cy H1.size _ _ cs' hf
  have hrow : (parseMethodDescriptor y.desc).map (fun d => d.parameters.length) = some 0 := by
    have h9 := hd9.2.2
    cases hp : parseMethodDescriptor y.desc with
    | none => rw [hp] at h9; cases h9
    | some d =>
      rw [hp] at h9
      simp only [Option.map_some, Option.some.injEq] at h9 ⊢
      omega
  have hlk : Cond.methodLink own idx2 y ∈ Ts := by simpa using hlk
  have hrun := va_runI (p := p) (l := l) (e := e) (R := R) (s := s) (m := m) (args := args) (below := below) (meth := meth) (c := c) (H := H1) (locs := locs) (cells := nc + 1) (slots := ns + n) (g := F0 m (pc + 4) lsA (.ref (lay1 cs.length) :: .ref (lay1 cs.length) :: rest)) (As := []) (rest := .ref (lay1 cs.length) :: rest) (b := lay1 cs.length) ⟨hx, hb, hml, hown, hts⟩ hM (cwI 0 hts hG hw hrc hrs (hts _ hini) (hts _ hlk) (hts _ hinst) hy1 ⟨hd9.1, hd9.2.1, hrow⟩ hR) ⟨dm_blind (vs := [.inr (.inr cs.length)]) (fun w hw => (hns w (hN1 w hw).1).2), fun U hU hW => ⟨rfl, by rw [hU], by rw [hU]; exact hP1, va_K.moved hW.alike hK, pm_weak hD1, fun w hw => (hN1 w hw).2 s U hW (hns w (hN1 w hw).1).1⟩⟩ rfl rfl hz rfl (lv_room (by rw [List.map_cons, List.sum_cons]; show 1 + (rest.map fun v => v.category).sum ≤ 8; omega)) d3 ⟨by omega, by omega⟩
  refine dm_goes (A := A) hrun hS1 (fun z _ hz => dm_free hD1 hS1 hA z hz) (fun z hz => dm_free hD1 hS1 hA z hz) (fun z hz => dm_free hD1 hS1 hA z hz) (fun H2 locs2 lay2 hlay2 hP2 hD2 hS2 => ?_)
  have hll : cs.length < (cs ++ [Sum.inl (ci, dm_df ci)] : List dC).length := by rw [List.length_append]; exact Nat.lt_succ_self _
  rw [← hlay2 cs.length hll]
  exact kk H2 locs2 lay2 (fun i hi => (hlay2 i (Nat.lt_trans hi hll)).trans (hl1 i hi)) hP2 hD2 hS2
end LWA
