/-! ===== the making machine is sound ===== -/
def dm_mv (w : Cond) : Prop := ∀ s U : State, s.WarmedH U.vm → va_Nw w s → va_Nw w U
def dm_sm (w : Cond) : Prop := ∀ u U : State, u.vm = U.vm → va_Nw w u → va_Nw w U
def dm_Q (D : va_G) (lay0 : Nat → Nat) (cy : Nat → ClassId) (n0 : Nat) (cs' : List dC) (A : Nat → Prop) : Array Value → State → Outcome → State → Prop := fun _ st oc t => (oc = .returned none ∧ ∃ lay : Nat → Nat, (∀ i, i < n0 → lay i = lay0 i) ∧ va_P D vwCl (dm_W lay cy cs') t.heap ∧ va_D A (dm_W lay cy cs')) ∧ va_F A st t
def dm_Con (l : Launch) (y : MethodName) (ws Ns : List Cond) (rm : Room) (mc ms : Nat) (f : dF) : Prop :=
  ∀ (D : va_G) (lay : Nat → Nat) (cy : Nat → ClassId) (sz : Nat) (cs : List dC) (vs : List pSV) (cs' : List dC), f cs vs = some cs' →
    Met l y ws rm (va_Pc (vs.map (pm_v lay)) (fun U => U.heap.size = sz ∧ va_P D vwCl (dm_W lay cy cs) U.heap ∧ va_K D vwCl (pm_T cy) U ∧ va_D (fun _ => True) (dm_W lay cy cs) ∧ ∀ w ∈ Ns, va_Nw w U)) (dm_Q D lay cy cs.length cs' (va_A (dm_W lay cy cs) sz)) mc ms (va_A (dm_W lay cy cs) sz)
def dm_Cal (l : Launch) (ws Ns : List Cond) (rm : Room) (own : String) (idx : Nat) (q : Nat × (Nat × (dF × (Nat × Nat)))) : Prop := match q with
  | (0, _) => Cond.methodLink own idx Lib.objectInit ∈ ws ∧ Cond.instanceMethod Lib.objectInit ∈ ws ∧ Cond.code Lib.objectInit ⟨#[0xb1]⟩ 1 none ∈ ws ∧ 1 ≤ rm.frames ∧ 20 ≤ rm.locals
  | (k + 1, a, f, c1, s1) => ∃ (y : MethodName) (ws1 ws1' Ns1 : List Cond) (rm1 : Room) (bytes : ByteArray) (maxL : Nat), dm_Con l y ws1 Ns1 rm1 c1 s1 f ∧ (∀ cs vs x, f cs vs = some x → cs.length ≤ x.length ∧ ∃ i vs', vs = .inr (.inr i) :: vs') ∧ GoodIn ws ws1 ∧ ws1 = Cond.code y bytes maxL none :: ws1' ∧ rm1.cells = c1 ∧ rm1.slots = s1 ∧ Cond.initialized y.cls ∈ ws ∧ Cond.instanceMethod y ∈ ws ∧ y.name = "<init>" ∧ (y.cls ≠ "java/lang/invoke/MethodHandle" ∧ y.cls ≠ "java/lang/invoke/VarHandle" ∧ (parseMethodDescriptor y.desc).map (fun d => d.parameters.length + 1) = some a) ∧ (rm1.frames + 1 ≤ rm.frames ∧ 8 + (maxL + 11) + rm1.locals ≤ rm.locals) ∧ (∀ w ∈ Ns1, w ∈ Ns ∧ dm_mv w) ∧ (if k = 0 then Cond.methodLink own idx y ∈ ws else ∃ host, Cond.methodLinkNest own idx y host ∈ Ns)
theorem dm_cyU {D : va_G} {cl : List vw_C} {cy : Nat → ClassId} {cA c1 : ClassId} {ty : FieldType} {s : State} (h : va_K D cl (pm_T cy ++ [(cA, ty)]) s) (t0 : Nat) (h1 : (pm_T cy ++ [(cA, ty)])[t0]? = some (c1, ty)) : cA = c1 := by
  have a1 := (h.2 t0 _ h1).2
  have a2 := (h.2 4 _ rfl).2
  cases ty with
  | object C =>
    obtain ⟨_, _, _, _, _, b1⟩ := a1
    obtain ⟨_, _, _, _, _, b2⟩ := a2
    exact Option.some.inj (b2.symm.trans b1)
  | _ => exact Option.some.inj (a2.symm.trans a1)
theorem dm_up {lay : Nat → Nat} {n q : Nat} : va_up lay n q n = q := by simp [va_up]
theorem dm_upn {lay : Nat → Nat} {n q i : Nat} (h : i < n) : va_up lay n q i = lay i := by
  have : i ≠ n := by omega
  simp [va_up, this]
theorem dm_grow {lay : Nat → Nat} {cy : Nat → ClassId} {cs : List dC} {c : dC} {q : Nat} (hc : dm_cl cs = true) (hn : ∀ l1 l2 : Nat → Nat, dm_E l1 cy c = dm_E l2 cy c) : dm_W lay cy cs ++ [(q, dm_E lay cy c)] = dm_W (va_up lay cs.length q) cy (cs ++ [c]) := by
  rw [dm_W_push, dm_W_lay (lay := lay) (lay' := va_up lay cs.length q) hc (fun i hi => dm_upn hi), dm_up, hn (va_up lay cs.length q) lay]
section DMS
variable {p : Program} {l : Launch} {e : Env} {R : Room} {s : State} {m : MethodId} {args : Array Value} {below : List Frame} {meth : Method} {c : Code} {Q : State → Prop}
variable {D : va_G} {lay0 : Nat → Nat} {cy : Nat → ClassId} {n0 nL mc ms : Nat} {A : Nat → Prop} {cc : ByteArray} {pc : Nat} {ls : pLS} {st : List pSV} {cs : List dC} {nc ns : Nat} {x : dX}
variable {own : String} {Ts Ns : List Cond} {fld : Nat → Option (Nat × Nat)} {nw : Nat → Option Nat} {cal : Nat → Option (Nat × (Nat × (dF × (Nat × Nat))))} {tab : Nat → Option (Instr × Nat)}
def dm_G (p : Program) (l : Launch) (e : Env) (R : Room) (s : State) (m : MethodId) (args : Array Value) (below : List Frame) (meth : Method) (c : Code) (Q : State → Prop) (D : va_G) (lay0 : Nat → Nat) (cy : Nat → ClassId) (n0 nL : Nat) (A : Nat → Prop) (x : dX) : Prop := ∀ (H : Heap) (locs : List Loc) (lsA : Array Slot) (lay : Nat → Nat), (∀ i, i < n0 → lay i = lay0 i) → n0 ≤ x.2.2.2.1.length → lv_has lsA nL (pm_L lay x.2.1) → va_P D vwCl (dm_W lay cy x.2.2.2.1) H → va_D A (dm_W lay cy x.2.2.2.1) → va_S A s.heap H locs → W p l e R s m args below meth c H locs x.2.2.2.2.1 x.2.2.2.2.2 Q (F0 m x.1 lsA (x.2.2.1.map (pm_v lay)))
def dm_nwok (Ts : List Cond) (own : String) (idx ci : Nat) : Prop := ∃ q : vw_C, vwCl[ci]? = some q ∧ Cond.classLink own idx q.1 ∈ Ts ∧ Cond.instantiable q.1 q.2.2 ∈ Ts ∧ Cond.initialized q.1 ∈ Ts ∧ ∀ w ∈ u_ws q.1 q.2.1 q.2.2, w ∈ Ts
theorem dm_getD {i : Nat} {v : dC} (h : cs[i]? = some v) : i < cs.length ∧ cs.getD i dm_0 = v := by
  have h1 := (List.getElem?_eq_some_iff.mp h).1
  exact ⟨h1, by rw [List.getD_eq_getElem?_getD, h]; rfl⟩
theorem dm_put {lay : Nat → Nat} {i ci k : Nat} {fs : List dV} {v : dV} {H : Heap} {locs : List Loc} {lsA : Array Slot} {r : List Value} (hx : p.tables.exec = Jvm.exec) (hb : c.code = cc) (hown : s.vm.findClass own = some m.cls) (hts : ∀ w ∈ Ts, w.before args s = true) (hK : va_K D vwCl (pm_T cy) s) (hin2 : meth.name = "<init>") {idx : Nat} (hF : pm_Fok Ts own idx ci k) (hoc : ∀ q : vw_C, vwCl[ci]? = some q → q.1 = own) (hi : cs[i]? = some (.inl (ci, fs))) (hkl : k < fs.length) (hq : ((pm_fk ci)[k]? = some 3 ∧ ∃ z, v = .inr (.inl z)) ∨ (∃ d z, (pm_fk ci)[k]? = some (d + 4) ∧ v = .inl (some z))) (hd : decode cc pc = .ok (.putfield idx, 3)) (hP : va_P D vwCl (dm_W lay cy cs) H) (hD : va_D A (dm_W lay cy cs)) (hS : va_S A s.heap H locs) (K : ∀ H1 locs1, va_P D vwCl (dm_W lay cy (cs.set i (.inl (ci, fs.set k v)))) H1 → va_D A (dm_W lay cy (cs.set i (.inl (ci, fs.set k v)))) → va_S A s.heap H1 locs1 → W p l e R s m args below meth c H1 locs1 nc ns Q (F0 m (pc + 3) lsA r)) : W p l e R s m args below meth c H locs nc ns Q (F0 m pc lsA (dm_f lay v :: .ref (lay i) :: r)) := by
  obtain ⟨⟨C, T, n⟩, hc, hk, hlink, hin⟩ := hF
  obtain ⟨hil, hig⟩ := dm_getD hi
  have he : (dm_W lay cy cs)[i]? = some (lay i, .inr (ci, fs.map (dm_f lay))) := by rw [dm_W_get hil, hig]; rfl
  obtain ⟨hlen, ⟨ty, hty⟩, hnm, -⟩ := pm_cl ci _ hc
  have hkd := (dm_clA ci _ hc).1 k hk
  have hCo : C = own := hoc _ hc
  have hset : (dm_W lay cy cs).set i (lay i, .inr (ci, (fs.map (dm_f lay)).set k (dm_f lay v))) = dm_W lay cy (cs.set i (.inl (ci, fs.set k v))) := by
    refine dm_W_set hil ?_
    show _ = Sum.inr (ci, (fs.set k v).map (dm_f lay))
    rw [List.map_set]
  rcases hq with ⟨hq, z, rfl⟩ | ⟨d, z, hq, rfl⟩
  · rw [List.getD_eq_getElem?_getD, hq] at hkd
    simp only [Option.getD_some, dm_kd, Bool.and_eq_true, decide_eq_true_eq] at hkd
    refine va_putF (D := D) (ci := ci) (v := .int z) (ty := .int) hx hb hts hin ty hty hnm hown hK hP hD hS i he hc k hk (hts _ hlink) (fun _ h9 => h9) hkd.1.1 hin2 (hkd.1.2.trans hCo) hkd.2 rfl rfl (by rw [List.length_map]; exact hkl) hd (fun H1 locs1 hP1 hD1 hS1 => ?_)
    have h9 : (dm_W lay cy cs).set i (lay i, .inr (ci, (fs.map (dm_f lay)).set k (.int z))) = dm_W lay cy (cs.set i (.inl (ci, fs.set k (.inr (.inl z))))) := hset
    rw [h9] at hP1 hD1
    exact K H1 locs1 hP1 hD1 hS1
  · rw [List.getD_eq_getElem?_getD, hq] at hkd
    simp only [Option.getD_some, dm_kd, Bool.and_eq_true, decide_eq_true_eq] at hkd
    have h9 : (dm_W lay cy cs).set i (lay i, .inr (ci, (fs.map (dm_f lay)).set k (.ref (lay z)))) = dm_W lay cy (cs.set i (.inl (ci, fs.set k (.inl (some z))))) := hset
    have hp := hkd.2
    split at hp
    · rename_i t9 hp9
      refine va_putF (D := D) (ci := ci) (v := .ref (lay z)) (ty := .array t9) hx hb hts hin ty hty hnm hown hK hP hD hS i he hc k hk (hts _ hlink) (fun _ h9 => h9) hkd.1.1 hin2 (hkd.1.2.trans hCo) hp9 rfl rfl (by rw [List.length_map]; exact hkl) hd (fun H1 locs1 hP1 hD1 hS1 => ?_)
      rw [h9] at hP1 hD1
      exact K H1 locs1 hP1 hD1 hS1
    · rename_i t9 hp9
      refine va_putF (D := D) (ci := ci) (v := .ref (lay z)) (ty := .object t9) hx hb hts hin ty hty hnm hown hK hP hD hS i he hc k hk (hts _ hlink) (fun _ h9 => h9) hkd.1.1 hin2 (hkd.1.2.trans hCo) hp9 rfl rfl (by rw [List.length_map]; exact hkl) hd (fun H1 locs1 hP1 hD1 hS1 => ?_)
      rw [h9] at hP1 hD1
      exact K H1 locs1 hP1 hD1 hS1
    · cases hp
theorem dm_blind {D : va_G} {lay : Nat → Nat} {cy : Nat → ClassId} {sz : Nat} {cs : List dC} {vs : List pSV} {Ns : List Cond} (hon : ∀ w ∈ Ns, dm_sm w) : FrameBlind (va_Pc (vs.map (pm_v lay)) (fun U => U.heap.size = sz ∧ va_P D vwCl (dm_W lay cy cs) U.heap ∧ va_K D vwCl (pm_T cy) U ∧ va_D (fun _ => True) (dm_W lay cy cs) ∧ ∀ w ∈ Ns, va_Nw w U)) := fun a U g mk q => by
  obtain ⟨q0, q1, qP, qK, qD, qN⟩ := q
  exact ⟨q0, q1, qP, va_K.moved (u := U) (U := U.calling g mk a) (Vm.Alike.refl U.vm) qK, qD, fun w hw => hon w hw U (U.calling g mk a) rfl (qN w hw)⟩
theorem dm_free {A : Nat → Prop} {ws : va_W} {H0 H : Heap} {locs : List Loc} (hD : va_D A ws) (hS : va_S A H0 H locs) (hA : ∀ q, H0.size ≤ q → A q) : ∀ q, va_A ws H.size q → A q := by
  intro q h
  rcases h with ⟨k, e, h⟩ | h
  · exact hD.2 k (q, e) h
  · exact hA q (Nat.le_trans hS.1 h)
theorem dm_goes {H : Heap} {locs : List Loc} {lsA : Array Slot} {lay : Nat → Nat} {n1 c1 s1 : Nat} {cs' : List dC} {st0 rest : List Value} {a : Array Value} {A1 : Nat → Prop} {free : Addr → Prop} (hr : va_Run p l e R s m args below meth c H locs nc ns c1 s1 (F0 m pc lsA st0) rest (dm_Q D lay cy n1 cs' A1 a) free) (hS : va_S A s.heap H locs) (hA : ∀ q, q < H.size → A1 q → A q) (hA1 : ∀ q, A1 q → A q) (hf : ∀ q, free q → A q)
    (kk : ∀ (H1 : Heap) (locs1 : List Loc) (lay1 : Nat → Nat), (∀ i, i < n1 → lay1 i = lay i) → va_P D vwCl (dm_W lay1 cy cs') H1 → va_D A (dm_W lay1 cy cs') → va_S A s.heap H1 locs1 → W p l e R s m args below meth c H1 locs1 (nc + c1) (ns + s1) Q (F0 m (pc + 3) lsA rest)) : W p l e R s m args below meth c H locs nc ns Q (F0 m pc lsA st0) := by
  intro T hT X
  obtain ⟨v, st₀, t, T', L, h0, X', hL, e1, e2, ⟨⟨hv, lay1, hlay, hp, hd⟩, hz, hk⟩, st⟩ := hr T hT X
  cases hv
  rw [h0] at hz hk
  obtain ⟨t2, a1, b1⟩ := kk T'.heap (locs ++ L) lay1 hlay (by rw [e1]; exact hp) (hd.weaken (fun k q _ h => hA1 q.1 h))
    ⟨Nat.le_trans hS.1 (by rw [e1]; exact hz), fun q h1 h2 => by rw [e1, hk q (Nat.lt_of_lt_of_le h1 hS.1) (fun z => h2 (hA q (Nat.lt_of_lt_of_le h1 hS.1) z))]; exact hS.2.1 q h1 h2, fun q hq => by
      rcases List.mem_append.mp hq with h | h
      · exact hS.2.2 q h
      · exact hf _ (hL q h)⟩ T' rfl X'
  exact ⟨t2, st t2 a1, b1⟩
theorem di_call (hx : p.tables.exec = Jvm.exec) (hb : c.code = cc) (hml : c.maxLocals = nL) (hown : s.vm.findClass own = some m.cls) (hts : ∀ w ∈ Ts, w.before args s = true) (hK : va_K D vwCl (pm_T cy) s) (hA : ∀ q, s.heap.size ≤ q → A q) (hns : ∀ w ∈ Ns, va_Nw w s ∧ dm_sm w) (hRc : mc ≤ R.cells) (hRs : ms ≤ R.slots) {idx : Nat} (hC : ∀ q, cal idx = some q → dm_Cal l Ts Ns R own idx q) (hd : decode cc pc = .ok (.invokespecial idx, 3)) (h : dm_ins fld nw cal nL mc ms (.invokespecial idx) pc ls st cs nc ns = some (.inl x)) (K : dm_G p l e R s m args below meth c Q D lay0 cy n0 nL A x) : dm_G p l e R s m args below meth c Q D lay0 cy n0 nL A (pc, ls, st, cs, nc, ns) := by
  intro H locs lsA lay hl0 hn0 hl hP hD hS
  simp only [dm_ins] at h
  split at h
  · rename_i q9 hq
    split at h
    · rename_i i r
      split at h
      · rename_i hw
        cases h
        obtain ⟨h1, h2, h3, h4, h5⟩ := hC _ hq
        exact W.objInit hx hb hown (hts _ h1) (hts _ h2) (hts _ h3) (g := F0 m pc lsA (.ref (lay i) :: r.map (pm_v lay))) rfl (hl.1.trans hml.symm) rfl hd h4 (by have := lv_room (m := m) (pc := pc) (ls := lsA) (rest := r.map (pm_v lay)) (st := r.map (pm_v lay)) (by rw [pm_sumw]; exact hw); show 2 * 0 + _ + 12 ≤ _; rw [pm_sumw]; omega) (K H locs lsA lay hl0 hn0 hl hP hD hS)
      · cases h
    · cases h
  · rename_i k a f c1 s1 hq
    split at h
    · rename_i hcond
      obtain ⟨g1, g2, g3, g4, g5⟩ := hcond
      split at h
      · rename_i cs' hf
        cases h
        obtain ⟨y, ws1, ws1', Ns1, rm1, bytes, maxL, hCon, hprop, hG, hw, hrc, hrs, hini, hinst, hy1, hd9, hR, hN1, hlk⟩ := hC _ hq
        obtain ⟨hlen, i, vs', hvs⟩ := hprop _ _ _ hf
        have hM := hCon D lay cy H.size cs _ cs' hf
        rw [hvs] at hM
        have hst : st = vs'.reverse ++ .inr (.inr i) :: st.drop a := by
          have e1 : st.take a = vs'.reverse ++ [.inr (.inr i)] := by
            have := congrArg List.reverse hvs
            rw [List.reverse_reverse, List.reverse_cons] at this
            exact this
          calc st = st.take a ++ st.drop a := (List.take_append_drop a st).symm
            _ = _ := by rw [e1, List.append_assoc]; rfl
        have hal : vs'.length + 1 = a := by
          have := congrArg List.length hvs
          rw [List.length_reverse, List.length_take, List.length_cons] at this
          omega
        have hrow : (parseMethodDescriptor y.desc).map (fun d => d.parameters.length) = some vs'.length := by
          have h9 := hd9.2.2
          cases hp : parseMethodDescriptor y.desc with
          | none => rw [hp] at h9; cases h9
          | some d =>
            rw [hp] at h9
            simp only [Option.map_some, Option.some.injEq] at h9 ⊢
            omega
        have hstk : st.map (pm_v lay) = (vs'.map (pm_v lay)).reverse ++ .ref (lay i) :: (st.drop a).map (pm_v lay) := by
          have := congrArg (List.map (pm_v lay)) hst
          rw [List.map_append, List.map_reverse, List.map_cons] at this
          exact this
        have hpre : PreS s H (va_Pc ((.inr (.inr i) :: vs' : List pSV).map (pm_v lay)) (fun U => U.heap.size = H.size ∧ va_P D vwCl (dm_W lay cy cs) U.heap ∧ va_K D vwCl (pm_T cy) U ∧ va_D (fun _ => True) (dm_W lay cy cs) ∧ ∀ w ∈ Ns1, va_Nw w U)) (.ref (lay i) :: vs'.map (pm_v lay)) := ⟨dm_blind (vs := .inr (.inr i) :: vs') (fun w hw => (hns w (hN1 w hw).1).2), fun U hU hW => ⟨rfl, by rw [hU], by rw [hU]; exact hP, va_K.moved hW.alike hK, pm_weak hD, fun w hw => (hN1 w hw).2 s U hW (hns w (hN1 w hw).1).1⟩⟩
        have hrun : va_Run p l e R s m args below meth c H locs nc ns c1 s1 (F0 m pc lsA (st.map (pm_v lay))) ((st.drop a).map (pm_v lay)) (dm_Q D lay cy cs.length cs' (va_A (dm_W lay cy cs) H.size) (Value.ref (lay i) :: vs'.map (pm_v lay)).toArray) (va_A (dm_W lay cy cs) H.size) := by
          by_cases hk : k = 0
          · rw [if_pos hk] at hlk
            exact va_runI (g := F0 m pc lsA (st.map (pm_v lay))) (As := vs'.map (pm_v lay)) (rest := (st.drop a).map (pm_v lay)) (b := lay i) ⟨hx, hb, hml, hown, hts⟩ hM (cwI vs'.length hts hG hw hrc hrs (hts _ hini) (hts _ hlk) (hts _ hinst) hy1 ⟨hd9.1, hd9.2.1, hrow⟩ hR) hpre rfl (by simp) hl.1 hstk (lv_room (by rw [pm_sumw]; exact g2)) hd ⟨by omega, by omega⟩
          · rw [if_neg hk] at hlk
            obtain ⟨host, hlk⟩ := hlk
            exact va_runIN (g := F0 m pc lsA (st.map (pm_v lay))) (As := vs'.map (pm_v lay)) (rest := (st.drop a).map (pm_v lay)) (b := lay i) ⟨hx, hb, hml, hown, hts⟩ hM ⟨va_cnB vs'.length hts hG hw hrc hrs (hns _ hlk).1 (hts _ hini) ⟨hd9.1, hd9.2.1, hrow⟩ hR, hy1, hts _ hinst⟩ hpre rfl (by simp) hl.1 hstk (lv_room (by rw [pm_sumw]; exact g2)) hd ⟨by omega, by omega⟩
        refine dm_goes (A := A) hrun hS (fun z _ hz => dm_free hD hS hA z hz) (fun z hz => dm_free hD hS hA z hz) (fun z hz => dm_free hD hS hA z hz) (fun H1 locs1 lay1 hlay hP1 hD1 hS1 => ?_)
        obtain ⟨r1, r2⟩ := dm_rs_lay g5 hlay
        have K9 := K H1 locs1 lsA lay1 (fun j hj => (hlay j (Nat.lt_of_lt_of_le hj hn0)).trans (hl0 j hj)) (Nat.le_trans hn0 hlen) (by show lv_has lsA nL (pm_L lay1 ls); rw [r1]; exact hl) hP1 hD1 hS1
        rw [← r2]
        exact K9
      · cases h
    · cases h
  · cases h
end DMS
