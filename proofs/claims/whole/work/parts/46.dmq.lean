/-! ===== the making machine is sound: the whole ===== -/
section DMQ
variable {p : Program} {l : Launch} {e : Env} {R : Room} {s : State} {m : MethodId} {args : Array Value} {below : List Frame} {meth : Method} {c : Code} {Q : State → Prop}
variable {D : va_G} {lay0 : Nat → Nat} {cy : Nat → ClassId} {n0 nL mc ms : Nat} {A : Nat → Prop} {cc : ByteArray} {pc : Nat} {ls : pLS} {st : List pSV} {cs : List dC} {nc ns : Nat} {x : dX}
variable {own : String} {Ts Ns : List Cond} {fld : Nat → Option (Nat × Nat)} {nw : Nat → Option Nat} {cal : Nat → Option (Nat × (Nat × (dF × (Nat × Nat))))} {tab : Nat → Option (Instr × Nat)}
def dm_len (ins : Instr) : Nat := match ins with
  | .iconst _ => 1 | .bipush _ => 2 | .sipush _ => 3 | .iload_n _ => 1 | .aload_n _ => 1 | .istore_n _ => 1 | .iinc _ _ => 3
  | .dup => 1 | .goto _ => 3 | .if_icmp _ _ => 3 | .getfield _ => 3 | .putfield _ => 3 | .aastore => 1 | .newarray _ => 2 | .new _ => 3 | .anewarray _ => 3
  | .invokespecial _ => 3 | .return_ => 1
  | _ => 0
def dm_tok (ins : Instr) (len : Nat) : Bool := decide (dm_len ins = 0) || decide (len = dm_len ins)
theorem dm_tok_len {len : Nat} {ins : Instr} (n : Nat) (hn : dm_len ins = n) (h0 : n ≠ 0) (h : dm_tok ins len = true) : len = n := by
  unfold dm_tok at h
  simp only [Bool.or_eq_true, decide_eq_true_eq] at h
  rcases h with q | q <;> omega
set_option maxHeartbeats 4000000 in
theorem dm_step (hx : p.tables.exec = Jvm.exec) (hb : c.code = cc) (hml : c.maxLocals = nL) (hown : s.vm.findClass own = some m.cls) (hts : ∀ w ∈ Ts, w.before args s = true) (hK : va_K D vwCl (pm_T cy) s) (hA : ∀ q, s.heap.size ≤ q → A q) (hns : ∀ w ∈ Ns, va_Nw w s ∧ dm_sm w) (hRc : mc ≤ R.cells) (hRs : ms ≤ R.slots) (hin2 : meth.name = "<init>") (hF : ∀ idx ci k, fld idx = some (ci, k) → pm_Fok Ts own idx ci k ∧ ∀ q : vw_C, vwCl[ci]? = some q → q.1 = own) (hnw : ∀ idx ci, nw idx = some ci → dm_nwok Ts own idx ci) (hC : ∀ idx q, cal idx = some q → dm_Cal l Ts Ns R own idx q) {ins : Instr} {len : Nat} (hd : decode cc pc = .ok (ins, len)) (ht : dm_tok ins len = true) (hna : ∀ a tc ty, ins = .newarray a → dm_tc a = some (tc, ty) → Cond.arrayClass ty ∈ Ts) (hnq : ∀ idx, ins = .anewarray idx → Cond.classLink own idx RX0 ∈ Ts ∧ va_AO RX0 s) (h : dm_ins fld nw cal nL mc ms ins pc ls st cs nc ns = some (.inl x)) (K : dm_G p l e R s m args below meth c Q D lay0 cy n0 nL A x) : dm_G p l e R s m args below meth c Q D lay0 cy n0 nL A (pc, ls, st, cs, nc, ns) := by
  cases ins with
  | iconst n =>
    have e9 := dm_tok_len 1 rfl (by decide) ht; subst e9
    intro H locs lsA lay hl0 hn0 hl hP hD hS
    cases h
    exact lv_iconst hx hb hd rfl (K H locs lsA lay hl0 hn0 hl hP hD hS)
  | bipush n =>
    have e9 := dm_tok_len 2 rfl (by decide) ht; subst e9
    intro H locs lsA lay hl0 hn0 hl hP hD hS
    cases h
    exact lv_bipush hx hb hd rfl (K H locs lsA lay hl0 hn0 hl hP hD hS)
  | sipush n =>
    have e9 := dm_tok_len 3 rfl (by decide) ht; subst e9
    intro H locs lsA lay hl0 hn0 hl hP hD hS
    cases h
    exact lv_sipush hx hb hd rfl (K H locs lsA lay hl0 hn0 hl hP hD hS)
  | aload_n k =>
    have e9 := dm_tok_len 1 rfl (by decide) ht; subst e9
    intro H locs lsA lay hl0 hn0 hl hP hD hS
    simp only [dm_ins] at h
    split at h
    · rename_i y hq
      cases h
      exact lv_aload_n hx hb hd rfl (pm_get hl hq) (K H locs lsA lay hl0 hn0 hl hP hD hS)
    · cases h
  | iload_n k =>
    have e9 := dm_tok_len 1 rfl (by decide) ht; subst e9
    intro H locs lsA lay hl0 hn0 hl hP hD hS
    simp only [dm_ins] at h
    split at h
    · rename_i y hq
      cases h
      exact lv_iload_n hx hb hd rfl (pm_get hl hq) (K H locs lsA lay hl0 hn0 hl hP hD hS)
    · cases h
  | istore_n k =>
    have e9 := dm_tok_len 1 rfl (by decide) ht; subst e9
    intro H locs lsA lay hl0 hn0 hl hP hD hS
    simp only [dm_ins] at h
    split at h
    · split at h
      · rename_i y r hk
        cases h
        exact lv_istore_n hx hb hd rfl hl hk (pm_s1_L (lay := lay) (ls := ls) (k := k) (v := .inl y)) (fun ls2 hl2 => K H locs ls2 lay hl0 hn0 hl2 hP hD hS)
      · cases h
    · cases h
  | iinc k n =>
    have e9 := dm_tok_len 3 rfl (by decide) ht; subst e9
    intro H locs lsA lay hl0 hn0 hl hP hD hS
    simp only [dm_ins] at h
    split at h
    · rename_i y hq
      split at h
      · rename_i hk
        cases h
        obtain ⟨j, hj⟩ := List.getElem?_of_mem (List.mem_map.mpr ⟨(k, .inl y), pm_lk_mem hq, rfl⟩ : (k, pm_v lay (.inl y)) ∈ pm_L lay ls)
        exact lv_iinc hx hb hd hl hj rfl hk (pm_s1_L (lay := lay) (v := .inl (y + Int32.ofInt n))) (fun ls2 hl2 => K H locs ls2 lay hl0 hn0 hl2 hP hD hS)
      · cases h
    · cases h
  | dup =>
    have e9 := dm_tok_len 1 rfl (by decide) ht; subst e9
    intro H locs lsA lay hl0 hn0 hl hP hD hS
    simp only [dm_ins] at h
    split at h
    · split at h
      · rename_i v r hw
        cases h
        exact lv_dup hx hb hd ((pm_cat lay v).trans hw) (K H locs lsA lay hl0 hn0 hl hP hD hS)
      · cases h
    · cases h
  | goto off =>
    have e9 := dm_tok_len 3 rfl (by decide) ht; subst e9
    intro H locs lsA lay hl0 hn0 hl hP hD hS
    simp only [dm_ins] at h
    split at h
    · rename_i hj
      cases h
      exact lv_goto hx hb hd (pm_jt hj) (K H locs lsA lay hl0 hn0 hl hP hD hS)
    · cases h
  | if_icmp cd off =>
    have e9 := dm_tok_len 3 rfl (by decide) ht; subst e9
    cases cd with
    | ge =>
      intro H locs lsA lay hl0 hn0 hl hP hD hS
      simp only [dm_ins] at h
      split at h
      · split at h
        · rename_i hj
          split at h
          · rename_i hc
            cases h
            exact lv_icmp_ge hx hb hd (pm_jt hj) (fun _ => K H locs lsA lay hl0 hn0 hl hP hD hS) (fun q => absurd hc q)
          · rename_i hc
            cases h
            exact lv_icmp_ge hx hb hd (pm_jt hj) (fun q => absurd q hc) (fun _ => K H locs lsA lay hl0 hn0 hl hP hD hS)
        · cases h
      · cases h
    | _ => cases h
  | newarray a =>
    have e9 := dm_tok_len 2 rfl (by decide) ht; subst e9
    exact di_newa hx hb hts hK hA hRc hRs (fun tc ty q => hna a tc ty rfl q) hd h K
  | new k =>
    have e9 := dm_tok_len 3 rfl (by decide) ht; subst e9
    exact di_new hx hb hown hts hK hA hRc hRs (fun ci q => hnw k ci q) hd h K
  | anewarray k =>
    have e9 := dm_tok_len 3 rfl (by decide) ht; subst e9
    exact di_newq hx hb hown hts hK hA hRc hRs (hnq k rfl) hd h K
  | getfield k =>
    have e9 := dm_tok_len 3 rfl (by decide) ht; subst e9
    exact di_get hx hb hown hts hK (fun ci j q => (hF k ci j q).1) hd h K
  | putfield k =>
    have e9 := dm_tok_len 3 rfl (by decide) ht; subst e9
    exact di_put hx hb hown hts hK hin2 (fun ci j q => hF k ci j q) hd h K
  | aastore =>
    have e9 := dm_tok_len 1 rfl (by decide) ht; subst e9
    exact di_ast hx hb hK hd h K
  | invokespecial k =>
    have e9 := dm_tok_len 3 rfl (by decide) ht; subst e9
    exact di_call hx hb hml hown hts hK hA hns hRc hRs (fun q hq => hC k q hq) hd h K
  | return_ =>
    simp only [dm_ins] at h
    split at h <;> cases h
  | _ => cases h
set_option maxHeartbeats 4000000 in
theorem dm_end {free : Addr → Prop} {cs' : List dC} (hx : p.tables.exec = Jvm.exec) (hb : c.code = cc) (hr : meth.sig.returnType = none) (hlocks : meth.locks = false) (hfr : ∀ q, A q → free q) {ins : Instr} {len : Nat} (hd : decode cc pc = .ok (ins, len)) (ht : dm_tok ins len = true) (h : dm_ins fld nw cal nL mc ms ins pc ls st cs nc ns = some (.inr cs')) : dm_G p l e R s m args below meth c (MQ below (dm_Q D lay0 cy n0 cs' A) args s mc ms free) D lay0 cy n0 nL A (pc, ls, st, cs, nc, ns) := by
  cases ins with
  | return_ =>
    have e9 := dm_tok_len 1 rfl (by decide) ht; subst e9
    intro H locs lsA lay hl0 hn0 hl hP hD hS
    simp only [dm_ins] at h
    split at h
    · rename_i hc
      obtain ⟨rfl, rfl, rfl⟩ := hc
      cases h
      exact W.vret hx hb hr (fun t ht hW => ⟨⟨rfl, lay, hl0, by rw [ht]; exact hP, hD⟩, hS.F ht⟩) (fun q hq => hfr _ (hS.2.2 q hq)) hd hlocks
    · cases h
  | if_icmp cd off =>
    cases cd <;> (simp only [dm_ins] at h; (try repeat' split at h)) <;> cases h
  | _ => first
    | cases h
    | ((simp only [dm_ins] at h); (repeat' split at h) <;> cases h)
theorem dm_sound (hx : p.tables.exec = Jvm.exec) (hb : c.code = cc) (hml : c.maxLocals = nL) (hown : s.vm.findClass own = some m.cls) (hts : ∀ w ∈ Ts, w.before args s = true) (hK : va_K D vwCl (pm_T cy) s) (hA : ∀ q, s.heap.size ≤ q → A q) (hns : ∀ w ∈ Ns, va_Nw w s ∧ dm_sm w) (hRc : mc ≤ R.cells) (hRs : ms ≤ R.slots) (hin2 : meth.name = "<init>") (hF : ∀ idx ci k, fld idx = some (ci, k) → pm_Fok Ts own idx ci k ∧ ∀ q : vw_C, vwCl[ci]? = some q → q.1 = own) (hnw : ∀ idx ci, nw idx = some ci → dm_nwok Ts own idx ci) (hC : ∀ idx q, cal idx = some q → dm_Cal l Ts Ns R own idx q) {free : Addr → Prop} (hr : meth.sig.returnType = none) (hlocks : meth.locks = false) (hfr : ∀ q, A q → free q) (htab : ∀ pc q, tab pc = some q → decode cc pc = .ok q ∧ dm_tok q.1 q.2 = true) (hna : ∀ pc len a tc ty, tab pc = some (.newarray a, len) → dm_tc a = some (tc, ty) → Cond.arrayClass ty ∈ Ts) (hnq : ∀ pc len idx, tab pc = some (.anewarray idx, len) → Cond.classLink own idx RX0 ∈ Ts ∧ va_AO RX0 s) {cs' : List dC} : ∀ (n : Nat) (x : dX), dm_run tab fld nw cal nL mc ms n x = some cs' → dm_G p l e R s m args below meth c (MQ below (dm_Q D lay0 cy n0 cs' A) args s mc ms free) D lay0 cy n0 nL A x := by
  intro n
  induction n with
  | zero => intro x h; cases h
  | succ n ih =>
    intro x h
    obtain ⟨pc, ls, st, cs, nc, ns⟩ := x
    unfold dm_run at h
    split at h
    · cases h
    · rename_i q hq
      obtain ⟨h1, h2⟩ := htab pc q hq
      split at h
      · rename_i x9 hs
        exact dm_step hx hb hml hown hts hK hA hns hRc hRs hin2 hF hnw hC h1 h2 (fun a tc ty e1 e2 => hna pc q.2 a tc ty (by rw [hq, ← e1]) e2) (fun idx e1 => hnq pc q.2 idx (by rw [hq, ← e1])) hs (ih x9 h)
      · rename_i r9 hs
        cases h
        exact dm_end hx hb hr hlocks hfr h1 h2 hs
      · cases h
end DMQ
/-- a constructor's pure function -/
def dm_met (t : List (Nat × (Instr × Nat))) (f : List (Nat × (Nat × Nat))) (nw : List (Nat × Nat)) (cl : List (Nat × (Nat × (Nat × (dF × (Nat × Nat)))))) (nL mc ms fuel : Nat) : dF := fun cs vs => if pm_sz vs ≤ nL then (match vs with
  | .inr (.inr _) :: _ => (match dm_run (pm_tb t) (pm_fb f) (fun k => (nw.find? (fun q => q.1 == k)).map (fun q => q.2)) (fun k => (cl.find? (fun q => q.1 == k)).map (fun q => q.2)) nL mc ms fuel (0, pm_en 0 vs, [], cs, 0, 0) with
    | some r => if cs.length ≤ r.length then some r else none
    | none => none)
  | _ => none) else none
theorem dm_met_prop {t : List (Nat × (Instr × Nat))} {f : List (Nat × (Nat × Nat))} {nw : List (Nat × Nat)} {cl : List (Nat × (Nat × (Nat × (dF × (Nat × Nat)))))} {nL mc ms fuel : Nat} : ∀ cs vs x, dm_met t f nw cl nL mc ms fuel cs vs = some x → cs.length ≤ x.length ∧ ∃ i vs', vs = .inr (.inr i) :: vs' := by
  intro cs vs x h
  unfold dm_met at h
  split at h
  · split at h
    · split at h
      · split at h
        · rename_i hle
          cases h
          exact ⟨hle, _, _, rfl⟩
        · cases h
      · cases h
    · cases h
  · cases h
theorem dm_met_run {t : List (Nat × (Instr × Nat))} {f : List (Nat × (Nat × Nat))} {nw : List (Nat × Nat)} {cl : List (Nat × (Nat × (Nat × (dF × (Nat × Nat)))))} {nL mc ms fuel : Nat} {cs : List dC} {vs : List pSV} {x : List dC} (h : dm_met t f nw cl nL mc ms fuel cs vs = some x) : pm_sz vs ≤ nL ∧ dm_run (pm_tb t) (pm_fb f) (fun k => (nw.find? (fun q => q.1 == k)).map (fun q => q.2)) (fun k => (cl.find? (fun q => q.1 == k)).map (fun q => q.2)) nL mc ms fuel (0, pm_en 0 vs, [], cs, 0, 0) = some x := by
  unfold dm_met at h
  split at h
  · rename_i hz
    split at h
    · split at h
      · rename_i r hr
        split at h
        · cases h
          exact ⟨hz, hr⟩
        · cases h
      · cases h
    · cases h
  · cases h
theorem dm_con {l : Launch} {y : MethodName} {ws ws' Ns : List Cond} {rm : Room} {cc : ByteArray} {nL mc ms fuel : Nat} {t : List (Nat × (Instr × Nat))} {f : List (Nat × (Nat × Nat))} {nw : List (Nat × Nat)} {cl : List (Nat × (Nat × (Nat × (dF × (Nat × Nat)))))} (hy : plainName y.cls = true) (hyn : y.name = "<init>") (hw : ws = Cond.code y cc nL none :: ws') (hRc : mc ≤ rm.cells) (hRs : ms ≤ rm.slots) (hon : ∀ w ∈ Ns, dm_sm w) (htab : ∀ q ∈ t, decode cc q.1 = .ok q.2 ∧ dm_tok q.2.1 q.2.2 = true) (hna : ∀ q ∈ t, ∀ a tc ty, q.2.1 = .newarray a → dm_tc a = some (tc, ty) → Cond.arrayClass ty ∈ ws) (hnq : ∀ q ∈ t, ∀ idx, q.2.1 = .anewarray idx → Cond.classLink y.cls idx RX0 ∈ ws ∧ Cond.arrayOver (.object RX0) ∈ Ns) (hfld : ∀ q ∈ f, pm_Fok ws y.cls q.1 q.2.1 q.2.2 ∧ ∀ z : vw_C, vwCl[q.2.1]? = some z → z.1 = y.cls) (hnw : ∀ q ∈ nw, dm_nwok ws y.cls q.1 q.2) (hcal : ∀ q ∈ cl, dm_Cal l ws Ns rm y.cls q.1 q.2) : dm_Con l y ws Ns rm mc ms (dm_met t f nw cl nL mc ms fuel) := by
  intro D lay cy sz cs vs cs' hf
  obtain ⟨hz, hrun⟩ := dm_met_run hf
  refine Met.ofW (cc := cc) (maxL := nL) (ret := none) hy hw ?_
  intro p e s m args below meth c s₁ B hml hv
  obtain ⟨rfl, hsz, hP, hK, hD0, hN⟩ := hv
  have hts := atoms_spec (ws := ws) B.pre
  have hown : s.vm.findClass y.cls = some m.cls := findClass_of_methodNamed B.named
  have hin : meth.name = "<init>" := ((name_of_methodNamed B.named B.method).1).trans hyn
  subst hsz
  have hD := hD0.self (sz := s.heap.size)
  have hl := lv_entry (vs.map (pm_v lay)) (n := nL) (by rw [pm_sl_len]; exact hz)
  rw [pm_en_L] at hl
  rw [lg_entry_eq]
  exact dm_sound (D := D) (lay0 := lay) (cy := cy) (n0 := cs.length) (A := va_A (dm_W lay cy cs) s.heap.size) (Ns := Ns) B.exec B.bytes hml hown hts hK (fun q hq => Or.inr hq) (fun w hw => ⟨hN w hw, hon w hw⟩) hRc hRs hin (fun idx ci k h => hfld (idx, ci, k) (pm_find h)) (fun idx ci h => hnw (idx, ci) (pm_find h)) (fun idx q h => hcal (idx, q) (pm_find h)) B.returns B.notSynchronized (fun q hq => hq) (fun pc q h => htab (pc, q) (pm_find h)) (fun pc len a tc ty h1 h2 => hna (pc, (.newarray a, len)) (pm_find h1) a tc ty rfl h2) (fun pc len idx h1 => ⟨(hnq (pc, (.anewarray idx, len)) (pm_find h1) idx rfl).1, hN _ (hnq (pc, (.anewarray idx, len)) (pm_find h1) idx rfl).2⟩) fuel (0, pm_en 0 vs, [], cs, 0, 0) hrun s.heap [] _ lay (fun _ _ => rfl) (Nat.le_refl _) hl hP hD va_S.rf
