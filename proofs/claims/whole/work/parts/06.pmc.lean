/-! ===== contracts over the pure machine, and calls ===== -/
/-- the contract of a method: where the pure function answers, the method returns so, over any layout of the cells -/
def pm_Con (l : Launch) (y : MethodName) (ws : List Cond) (rm : Room) (sh : pSH) (N : Nat) (f : pFN) : Prop :=
  ∀ (D : va_G) (lay : Nat → Nat) (cy : Nat → ClassId) (sz : Nat) (σ : pST) (vs : List pSV) (σ' : pST) (r : Option pSV), f σ vs = some (σ', r) →
    Met l y ws rm (va_Pc (vs.map (pm_v lay)) (fun U => U.heap.size = sz ∧ va_P D vwCl (pm_W lay cy sh N σ) U.heap ∧ va_K D vwCl (pm_T cy) U ∧ va_D (fun _ => True) (pm_W lay cy sh N σ))) (pm_Q lay cy sh N D (va_A (pm_W lay cy sh N σ) sz) σ' r) 0 0 (va_A (pm_W lay cy sh N σ) sz)
/-- a call of an object's method, in a method with the words ws, the room rm, the class own -/
def pm_CalV (l : Launch) (ws : List Cond) (rm : Room) (own : String) (sh : pSH) (N idx a ci : Nat) (f : pFN) : Prop :=
  ∃ (y : MethodName) (ws1 ws1' : List Cond) (rm1 : Room) (bytes : ByteArray) (maxL : Nat) (ret : Option FieldType) (q : vw_C), pm_Con l y ws1 rm1 sh N f ∧ (∀ σ vs x, f σ vs = some x → ∃ i vs', vs = .inr (.inr i) :: vs' ∧ sh i = .inl ci) ∧ vwCl[ci]? = some q ∧ GoodIn ws (wsV own idx q.1 y ws1) ∧ ws1 = Cond.code y bytes maxL ret :: ws1' ∧ rm1.cells = 0 ∧ rm1.slots = 0 ∧ (y.cls = q.1 ∧ y.cls ≠ "java/lang/invoke/MethodHandle" ∧ y.cls ≠ "java/lang/invoke/VarHandle" ∧ (parseMethodDescriptor y.desc).map (fun d => d.parameters.length + 1) = some a) ∧ (rm1.frames + 1 ≤ rm.frames ∧ 8 + (maxL + 11) + rm1.locals ≤ rm.locals)
def pm_CalS (l : Launch) (ws : List Cond) (rm : Room) (own : String) (sh : pSH) (N idx a : Nat) (f : pFN) : Prop :=
  ∃ (y : MethodName) (ws1 ws1' : List Cond) (rm1 : Room) (bytes : ByteArray) (maxL : Nat) (ret : Option FieldType), pm_Con l y ws1 rm1 sh N f ∧ GoodIn ws (va_wsS own idx y ws1) ∧ ws1 = Cond.code y bytes maxL ret :: ws1' ∧ rm1.cells = 0 ∧ rm1.slots = 0 ∧ (y.cls ≠ "java/lang/invoke/MethodHandle" ∧ y.cls ≠ "java/lang/invoke/VarHandle" ∧ (parseMethodDescriptor y.desc).map (fun d => d.parameters.length) = some a) ∧ (rm1.frames + 1 ≤ rm.frames ∧ 8 + (maxL + 11) + rm1.locals ≤ rm.locals)
/-- System.arraycopy of rows of longs -/
def pm_cpy (sh : pSH) : pFN := fun σ vs => match vs with
  | [.inr (.inr a0), .inl sp, .inr (.inr a1), .inl dp, .inl n] => (match sh a0, sh a1 with
    | .inr (1, n0), .inr (1, n1) => if sp < 0 ∨ dp < 0 ∨ n < 0 ∨ n0 < sp.toNatClampNeg + n.toNatClampNeg ∨ n1 < dp.toNatClampNeg + n.toNatClampNeg then none else some ((σ.1, fun a => if a = a1 then va_cpy (σ.2 a0) (σ.2 a1) sp.toNatClampNeg dp.toNatClampNeg n.toNatClampNeg else σ.2 a), none)
    | _, _ => none)
  | _ => none
def pm_CalC (ws : List Cond) (rm : Room) (own : String) (sh : pSH) (idx a : Nat) (f : pFN) : Prop :=
  f = pm_cpy sh ∧ a = 5 ∧ Cond.methodLink own idx arraycopyName ∈ ws ∧ Cond.native arraycopyName ∈ ws ∧ Cond.static arraycopyName ∈ ws ∧ Cond.initialized "java/lang/System" ∈ ws ∧ 1 ≤ rm.frames ∧ 8 + (nativeFrameWords "java/lang/System" "arraycopy" 5 + 11) ≤ rm.locals
/-- Math.min of ints -/
def pm_min : pFN := fun σ vs => match vs with
  | [.inl x, .inl y] => some (σ, some (.inl (if y < x then y else x)))
  | _ => none
def pm_CalM (ws : List Cond) (rm : Room) (own : String) (idx a : Nat) (f : pFN) : Prop :=
  f = pm_min ∧ a = 2 ∧ Cond.methodLink own idx Lib.Math.min.name ∈ ws ∧ Cond.static Lib.Math.min.name ∈ ws ∧ Cond.initialized "java/lang/Math" ∈ ws ∧ Cond.code Lib.Math.min.name Lib.Math.min.code 2 (some .int) ∈ ws ∧ 1 ≤ rm.frames ∧ 21 ≤ rm.locals
def pm_Cal (l : Launch) (ws : List Cond) (rm : Room) (own : String) (sh : pSH) (N idx a : Nat) (rc : Option Nat) (f : pFN) : Prop := match rc with
  | some ci => pm_CalV l ws rm own sh N idx a ci f
  | none => pm_CalS l ws rm own sh N idx a f ∨ pm_CalC ws rm own sh idx a f ∨ pm_CalM ws rm own idx a f
theorem pm_free {A : Nat → Prop} {lay : Nat → Nat} {cy : Nat → ClassId} {sh : pSH} {N : Nat} {σ : pST} {H0 H : Heap} {locs : List Loc} (hD : va_D A (pm_W lay cy sh N σ)) (hS : va_S A H0 H locs) (hA : ∀ q, H0.size ≤ q → A q) : ∀ q, va_A (pm_W lay cy sh N σ) H.size q → A q := by
  intro q h
  rcases h with ⟨k, e, h⟩ | h
  · exact hD.2 k (q, e) h
  · exact hA q (Nat.le_trans hS.1 h)
section PMC
variable {p : Program} {l : Launch} {e : Env} {R : Room} {s : State} {m : MethodId} {args : Array Value} {below : List Frame} {meth : Method} {c : Code} {Q : State → Prop}
variable {D : va_G} {lay : Nat → Nat} {cy : Nat → ClassId} {sh : pSH} {N nL : Nat} {A : Nat → Prop} {cc : ByteArray} {pc : Nat} {ls : pLS} {st : List pSV} {σ : pST} {x : pNX}
variable {own : String} {Ts : List Cond}
theorem pm_goes {H : Heap} {locs : List Loc} {lsA : Array Slot} {st0 rest : List Value} {a : Array Value} {A1 : Nat → Prop} {free : Addr → Prop} {σ' : pST} {r : Option pSV} (hr : va_Run p l e R s m args below meth c H locs 0 0 0 0 (F0 m pc lsA st0) rest (pm_Q lay cy sh N D A1 σ' r a) free) (hS : va_S A s.heap H locs) (hA : ∀ q, q < H.size → A1 q → A q) (hf : ∀ q, free q → A q)
    (kk : ∀ (H1 : Heap) (locs1 : List Loc), va_P D vwCl (pm_W lay cy sh N σ') H1 → va_S A s.heap H1 locs1 → W p l e R s m args below meth c H1 locs1 0 0 Q (F0 m (pc + 3) lsA ((r.map (pm_v lay)).toList ++ rest))) : W p l e R s m args below meth c H locs 0 0 Q (F0 m pc lsA st0) := by
  intro T hT X
  obtain ⟨v, st₀, t, T', L, h0, X', hL, e1, e2, ⟨⟨hv, hp⟩, hz, hk⟩, st⟩ := hr T hT X
  cases hv
  rw [h0] at hz hk
  obtain ⟨t2, a1, b1⟩ := kk T'.heap (locs ++ L) (by rw [e1]; exact hp)
    ⟨Nat.le_trans hS.1 (by rw [e1]; exact hz), fun q h1 h2 => by rw [e1, hk q (Nat.lt_of_lt_of_le h1 hS.1) (fun z => h2 (hA q (Nat.lt_of_lt_of_le h1 hS.1) z))]; exact hS.2.1 q h1 h2, fun q hq => by
      rcases List.mem_append.mp hq with h | h
      · exact hS.2.2 q h
      · exact hf _ (hL q h)⟩ T' rfl X'
  exact ⟨t2, st t2 a1, b1⟩
theorem pm_blind {D : va_G} {lay : Nat → Nat} {cy : Nat → ClassId} {sh : pSH} {N sz : Nat} {σ : pST} {vs : List pSV} : FrameBlind (va_Pc (vs.map (pm_v lay)) (fun U => U.heap.size = sz ∧ va_P D vwCl (pm_W lay cy sh N σ) U.heap ∧ va_K D vwCl (pm_T cy) U ∧ va_D (fun _ => True) (pm_W lay cy sh N σ))) := fun a U g mk q => by
  obtain ⟨q0, q1, qP, qK, qD⟩ := q
  exact ⟨q0, q1, qP, va_K.moved (u := U) (U := U.calling g mk a) (Vm.Alike.refl U.vm) qK, qD⟩
theorem pm_weak {A : Nat → Prop} {ws : va_W} (hD : va_D A ws) : va_D (fun _ => True) ws := hD.weaken (fun _ _ _ _ => trivial)
theorem pm_sumw (lay : Nat → Nat) (st : List pSV) : ((st.map (pm_v lay)).map fun v => v.category).sum = pm_cs st := by
  unfold pm_cs
  rw [List.map_map]
  congr 2
  funext v
  exact pm_cat lay v
theorem pi_callV (hx : p.tables.exec = Jvm.exec) (hb : c.code = cc) (hml : c.maxLocals = nL) (hown : s.vm.findClass own = some m.cls) (hts : ∀ w ∈ Ts, w.before args s = true) (hK : va_K D vwCl (pm_T cy) s) (hN : ∀ i, N ≤ i → sh i = .inr (9, 0)) (hA : ∀ q, s.heap.size ≤ q → A q) {idx : Nat} {q : Option (Nat × (Option Nat × pFN))} (hC : ∀ a rc f, q = some (a, rc, f) → pm_Cal l Ts R own sh N idx a rc f) (hd : decode cc pc = .ok (.invokevirtual idx, 3)) (h : pm_call q false pc ls st σ = some (.inl x)) (K : pm_G p l e R s m args below meth c Q D lay cy sh N nL A x) : pm_G p l e R s m args below meth c Q D lay cy sh N nL A (pc, ls, st, σ) := by
  intro H locs lsA hl hP hD hS
  unfold pm_call at h
  split at h
  · rename_i a rc f
    split at h
    · rename_i hc
      obtain ⟨h1, h2, h3⟩ := hc
      split at h
      · rename_i σ' r hf
        cases h
        rcases rc with _ | ci
        · simp at h3
        · obtain ⟨y, ws1, ws1', rm1, bytes, maxL, ret, qc, hCon, hrecv, hcl, hG, hw, hrc, hrs, hd9, hR⟩ := hC a (some ci) f rfl
          obtain ⟨i, vs', hvs, hsh⟩ := hrecv _ _ _ hf
          have hM := hCon D lay cy H.size σ _ σ' r hf
          rw [hvs] at hM
          have hst : st = vs'.reverse ++ .inr (.inr i) :: st.drop a := by
            have e1 : st.take a = vs'.reverse ++ [.inr (.inr i)] := by
              have := congrArg List.reverse hvs
              rw [List.reverse_reverse, List.reverse_cons] at this
              exact this
            calc st = st.take a ++ st.drop a := (List.take_append_drop a st).symm
              _ = _ := by rw [e1, List.append_assoc]; rfl
          have hlen : vs'.length + 1 = a := by
            have := congrArg List.length hvs
            rw [List.length_reverse, List.length_take, List.length_cons] at this
            omega
          have hrow : (parseMethodDescriptor y.desc).map (fun d => d.parameters.length) = some vs'.length := by
            have h9 := hd9.2.2.2
            cases hp : parseMethodDescriptor y.desc with
            | none => rw [hp] at h9; cases h9
            | some d =>
              rw [hp] at h9
              simp only [Option.map_some, Option.some.injEq] at h9 ⊢
              omega
          have hstk : st.map (pm_v lay) = (vs'.map (pm_v lay)).reverse ++ .ref (lay i) :: (st.drop a).map (pm_v lay) := by
            have := congrArg (List.map (pm_v lay)) hst
            rw [List.map_append, List.map_reverse, List.map_cons] at this
            exact this
          have hrun := va_runV (p := p) (l := l) (e := e) (R := R) (s := s) (m := m) (args := args) (below := below) (meth := meth) (c := c) (H := H) (locs := locs) (cells := 0) (slots := 0) (g := F0 m pc lsA (st.map (pm_v lay))) (As := vs'.map (pm_v lay)) (rest := (st.drop a).map (pm_v lay)) (b := lay i) ⟨hx, hb, hml, hown, hts⟩ hM (cwV vs'.length hts hG hw hrc hrs ⟨hd9.1, hd9.2.1, hd9.2.2.1, hrow⟩ hR) ⟨pm_blind (vs := .inr (.inr i) :: vs'), va_recv hK hP hcl (pm_W_obj (pm_lt hN (by rw [hsh]; simp)) hsh), fun U hU hW => ⟨rfl, by rw [hU], by rw [hU]; exact hP, va_K.moved hW.alike hK, pm_weak hD⟩⟩ rfl (by simp) hl.1 hstk (lv_room (by rw [pm_sumw]; exact h2)) hd ⟨Nat.zero_le _, Nat.zero_le _⟩
          refine pm_goes (A := A) hrun hS (fun z _ hz => pm_free hD hS hA z hz) (fun z hz => pm_free hD hS hA z hz) (fun H1 locs1 hP1 hS1 => ?_)
          have K9 := K H1 locs1 lsA hl hP1 (pm_D σ' hD) hS1
          have e9 : (r.map (pm_v lay)).toList ++ (st.drop a).map (pm_v lay) = (r.toList ++ st.drop a).map (pm_v lay) := by
            cases r <;> simp
          rw [e9]
          exact K9
      · cases h
    · cases h
  · cases h
theorem pi_callS (hx : p.tables.exec = Jvm.exec) (hb : c.code = cc) (hml : c.maxLocals = nL) (hown : s.vm.findClass own = some m.cls) (hts : ∀ w ∈ Ts, w.before args s = true) (hK : va_K D vwCl (pm_T cy) s) (hN : ∀ i, N ≤ i → sh i = .inr (9, 0)) (hA : ∀ q, s.heap.size ≤ q → A q) {idx : Nat} {q : Option (Nat × (Option Nat × pFN))} (hC : ∀ a rc f, q = some (a, rc, f) → pm_Cal l Ts R own sh N idx a rc f) (hd : decode cc pc = .ok (.invokestatic idx, 3)) (h : pm_call q true pc ls st σ = some (.inl x)) (K : pm_G p l e R s m args below meth c Q D lay cy sh N nL A x) : pm_G p l e R s m args below meth c Q D lay cy sh N nL A (pc, ls, st, σ) := by
  intro H locs lsA hl hP hD hS
  unfold pm_call at h
  split at h
  · rename_i a rc f
    split at h
    · rename_i hc
      obtain ⟨h1, h2, h3⟩ := hc
      split at h
      · rename_i σ' r hf
        cases h
        rcases rc with _ | ci
        · rcases hC a none f rfl with ⟨y, ws1, ws1', rm1, bytes, maxL, ret, hCon, hG, hw, hrc, hrs, hd9, hR⟩ | ⟨rfl, rfl, hl1, hl2, hl3, hl4, hl5, hl6⟩ | ⟨rfl, rfl, hl1, hl2, hl3, hl4, hl5, hl6⟩
          · have hM := hCon D lay cy H.size σ _ σ' r hf
            have hstk : st.map (pm_v lay) = ((st.take a).reverse.map (pm_v lay)).reverse ++ (st.drop a).map (pm_v lay) := by
              rw [← List.map_reverse, List.reverse_reverse, ← List.map_append, List.take_append_drop]
            have hn : ((st.take a).reverse.map (pm_v lay)).length = a := by
              rw [List.length_map, List.length_reverse, List.length_take]
              omega
            have hrun := va_runS (p := p) (l := l) (e := e) (R := R) (s := s) (m := m) (args := args) (below := below) (meth := meth) (c := c) (H := H) (locs := locs) (cells := 0) (slots := 0) (g := F0 m pc lsA (st.map (pm_v lay))) (As := (st.take a).reverse.map (pm_v lay)) (rest := (st.drop a).map (pm_v lay)) ⟨hx, hb, hml, hown, hts⟩ hM (va_cwS a hts hG hw hrc hrs hd9 hR) ⟨pm_blind, fun U hU hW => ⟨rfl, by rw [hU], by rw [hU]; exact hP, va_K.moved hW.alike hK, pm_weak hD⟩⟩ rfl hn hl.1 hstk (lv_room (by rw [pm_sumw]; exact h2)) hd ⟨Nat.zero_le _, Nat.zero_le _⟩
            refine pm_goes (A := A) hrun hS (fun z _ hz => pm_free hD hS hA z hz) (fun z hz => pm_free hD hS hA z hz) (fun H1 locs1 hP1 hS1 => ?_)
            have K9 := K H1 locs1 lsA hl hP1 (pm_D σ' hD) hS1
            have e9 : (r.map (pm_v lay)).toList ++ (st.drop a).map (pm_v lay) = (r.toList ++ st.drop a).map (pm_v lay) := by
              cases r <;> simp
            rw [e9]
            exact K9
          · unfold pm_cpy at hf
            split at hf
            · rename_i a0 sp a1 dp n hvs
              split at hf
              · rename_i n0 n1 hs0 hs1
                split at hf
                · cases hf
                · rename_i hok
                  cases hf
                  have e1 : st.take 5 = [.inl n, .inl dp, .inr (.inr a1), .inl sp, .inr (.inr a0)] := by
                    have := congrArg List.reverse hvs
                    rw [List.reverse_reverse] at this
                    exact this
                  have hst : st = .inl n :: .inl dp :: .inr (.inr a1) :: .inl sp :: .inr (.inr a0) :: st.drop 5 := by
                    calc st = st.take 5 ++ st.drop 5 := (List.take_append_drop 5 st).symm
                      _ = _ := by rw [e1]; rfl
                  have hstk : st.map (pm_v lay) = .int n :: .int dp :: .ref (lay a1) :: .int sp :: .ref (lay a0) :: (st.drop 5).map (pm_v lay) := congrArg (List.map (pm_v lay)) hst
                  show W p l e R s m args below meth c H locs 0 0 Q (F0 m pc lsA (st.map (pm_v lay)))
                  rw [hstk]
                  have hi : a1 < N := pm_lt hN (by rw [hs1]; simp)
                  refine va_copyl hx hb (hml.trans hl.1.symm) hown (hts _ hl1) (hts _ hl2) (hts _ hl3) (hts _ hl4) hK hP hD hS a0 a1 1 1 (pm_W_lng (pm_lt hN (by rw [hs0]; simp)) hs0) (pm_W_lng hi hs1) rfl rfl rfl (fun z => hok (Or.inl z)) (fun z => hok (Or.inr (Or.inl z))) (fun z => hok (Or.inr (Or.inr (Or.inl z)))) (Nat.not_lt.mp fun z => hok (Or.inr (Or.inr (Or.inr (Or.inl z))))) (Nat.not_lt.mp fun z => hok (Or.inr (Or.inr (Or.inr (Or.inr z))))) (fun i _ => rfl) hl5 (by rw [pm_sumw]; omega) hd (fun H1 locs1 hP1 hD1 hS1 => ?_)
                  have hset : (pm_W lay cy sh N σ).set a1 (lay a1, .inl (cy 1, n1, .inr (.inl (va_cpy (σ.2 a0) (σ.2 a1) sp.toNatClampNeg dp.toNatClampNeg n.toNatClampNeg)))) = pm_W lay cy sh N (σ.1, fun a => if a = a1 then va_cpy (σ.2 a0) (σ.2 a1) sp.toNatClampNeg dp.toNatClampNeg n.toNatClampNeg else σ.2 a) := by
                    refine pm_W_set (σ := σ) (σ' := (σ.1, fun a => if a = a1 then va_cpy (σ.2 a0) (σ.2 a1) sp.toNatClampNeg dp.toNatClampNeg n.toNatClampNeg else σ.2 a)) hi (fun b hb9 => ⟨rfl, by simp [hb9]⟩) ?_
                    rw [pm_E_lng hs1]
                    simp
                  rw [hset] at hP1 hD1
                  exact K H1 locs1 lsA hl hP1 hD1 hS1
              · cases hf
            · cases hf
          · unfold pm_min at hf
            split at hf
            · rename_i z1 z2 hvs
              cases hf
              have e1 : st.take 2 = [.inl z2, .inl z1] := by
                have := congrArg List.reverse hvs
                rw [List.reverse_reverse] at this
                exact this
              have hst : st = .inl z2 :: .inl z1 :: st.drop 2 := by
                calc st = st.take 2 ++ st.drop 2 := (List.take_append_drop 2 st).symm
                  _ = _ := by rw [e1]; rfl
              have hstk : st.map (pm_v lay) = .int z2 :: .int z1 :: (st.drop 2).map (pm_v lay) := congrArg (List.map (pm_v lay)) hst
              show W p l e R s m args below meth c H locs 0 0 Q (F0 m pc lsA (st.map (pm_v lay)))
              rw [hstk]
              exact va_mmin hx hb (hml.trans hl.1.symm) hown (hts _ hl1) (hts _ hl2) (hts _ hl3) (hts _ hl4) hl5 (by rw [pm_sumw]; omega) (Nat.zero_le _) (Nat.zero_le _) hd (K H locs lsA hl hP hD hS)
            · cases hf
        · simp at h3
      · cases h
    · cases h
  · cases h
theorem pi_ret {free : Addr → Prop} {rt k : Nat} {σ' : pST} {r : Option pSV} {ins : Instr} (hx : p.tables.exec = Jvm.exec) (hb : c.code = cc) (hr : meth.sig.returnType = pm_rt rt) (hlocks : meth.locks = false) (hfr : ∀ q, A q → free q) (hk : (k = 0 ∧ ins = .return_) ∨ (k = 1 ∧ ins = .ireturn) ∨ (k = 2 ∧ ins = .lreturn)) (hd : decode cc pc = .ok (ins, 1)) (h : pm_ret rt k st σ = some (.inr (σ', r))) : pm_G p l e R s m args below meth c (MQ below (pm_Q lay cy sh N D A σ' r) args s 0 0 free) D lay cy sh N nL A (pc, ls, st, σ) := by
  intro H locs lsA hl hP hD hS
  unfold pm_ret at h
  split at h
  · cases h
    have e : ins = .return_ := by rcases hk with ⟨_, e⟩ | ⟨e, _⟩ | ⟨e, _⟩; exact e; cases e; cases e
    subst e
    exact W.vret hx hb hr (fun t ht hW => ⟨⟨rfl, by rw [ht]; exact hP⟩, hS.F ht⟩) (fun q hq => hfr _ (hS.2.2 q hq)) hd hlocks
  · cases h
    have e : ins = .ireturn := by rcases hk with ⟨e, _⟩ | ⟨_, e⟩ | ⟨e, _⟩; cases e; exact e; cases e
    subst e
    exact W.iret hx hb hr (fun t ht hW => ⟨⟨rfl, by rw [ht]; exact hP⟩, hS.F ht⟩) (fun q hq => hfr _ (hS.2.2 q hq)) hd hlocks
  · split at h
    · rename_i hy
      cases h
      have e : ins = .ireturn := by rcases hk with ⟨e, _⟩ | ⟨_, e⟩ | ⟨e, _⟩; cases e; exact e; cases e
      subst e
      exact W.zret hx hb hr (by rcases hy with rfl | rfl <;> rfl) (fun t ht hW => ⟨⟨rfl, by rw [ht]; exact hP⟩, hS.F ht⟩) (fun q hq => hfr _ (hS.2.2 q hq)) hd hlocks
    · cases h
  · cases h
    have e : ins = .lreturn := by rcases hk with ⟨e, _⟩ | ⟨e, _⟩ | ⟨_, e⟩; cases e; cases e; exact e
    subst e
    exact W.lret hx hb hr (fun t ht hW => ⟨⟨rfl, by rw [ht]; exact hP⟩, hS.F ht⟩) (fun q hq => hfr _ (hS.2.2 q hq)) hd hlocks
  · cases h
end PMC
