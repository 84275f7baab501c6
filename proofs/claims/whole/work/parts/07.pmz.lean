/-! ===== the pure machine is sound ===== -/
def pm_tok (pc : Nat) (ins : Instr) (len : Nat) : Bool := (decide (pm_len ins = 0) || decide (len = pm_len ins)) && (match ins with
  | .ifCond _ off => decide (0 ≤ (pc : Int) + off)
  | .if_icmp _ off => decide (0 ≤ (pc : Int) + off)
  | _ => true)
def pm_Kok (Ts : List Cond) (own : String) (idx : Nat) (v : Int32 ⊕ Int64) : Prop := match v with
  | .inl x => Cond.constant own idx x ∈ Ts
  | .inr x => Cond.constantLong own idx x ∈ Ts
theorem pm_tok_len {pc len : Nat} {ins : Instr} (n : Nat) (hn : pm_len ins = n) (h0 : n ≠ 0) (h : pm_tok pc ins len = true) : len = n := by
  unfold pm_tok at h
  simp only [Bool.and_eq_true, Bool.or_eq_true, decide_eq_true_eq] at h
  rcases h.1 with q | q
  · omega
  · omega
theorem pm_tok_if {pc len : Nat} {cd : ClassFile.Cond} {off : Int} (h : pm_tok pc (.ifCond cd off) len = true) : (pc : Int) + off = ((((pc : Int) + off).toNat : Nat) : Int) := by
  unfold pm_tok at h
  simp only [Bool.and_eq_true, decide_eq_true_eq] at h
  exact pm_jt h.2
theorem pm_tok_ic {pc len : Nat} {cd : ClassFile.Cond} {off : Int} (h : pm_tok pc (.if_icmp cd off) len = true) : (pc : Int) + off = ((((pc : Int) + off).toNat : Nat) : Int) := by
  unfold pm_tok at h
  simp only [Bool.and_eq_true, decide_eq_true_eq] at h
  exact pm_jt h.2
theorem pm_ret_nl {rt k : Nat} {st : List pSV} {σ : pST} {x : pNX} (h : pm_ret rt k st σ = some (.inl x)) : False := by
  unfold pm_ret at h
  repeat' split at h
  all_goals cases h
section PMZ
variable {p : Program} {l : Launch} {e : Env} {R : Room} {s : State} {m : MethodId} {args : Array Value} {below : List Frame} {meth : Method} {c : Code} {Q : State → Prop}
variable {D : va_G} {lay : Nat → Nat} {cy : Nat → ClassId} {sh : pSH} {N nL rt : Nat} {A : Nat → Prop} {cc : ByteArray} {pc : Nat} {ls : pLS} {st : List pSV} {σ : pST} {x : pNX}
variable {own : String} {Ts : List Cond} {fld : Nat → Option (Nat × Nat)} {cst : Nat → Option (Int32 ⊕ Int64)} {cal : pCL} {tab : Nat → Option (Instr × Nat)}
set_option maxHeartbeats 4000000 in
theorem pm_step (hx : p.tables.exec = Jvm.exec) (hb : c.code = cc) (hml : c.maxLocals = nL) (hown : s.vm.findClass own = some m.cls) (hts : ∀ w ∈ Ts, w.before args s = true) (hK : va_K D vwCl (pm_T cy) s) (hN : ∀ i, N ≤ i → sh i = .inr (9, 0)) (hA : ∀ q, s.heap.size ≤ q → A q) (hfld : ∀ idx ci k, fld idx = some (ci, k) → pm_Fok Ts own idx ci k) (hcst : ∀ idx v, cst idx = some v → pm_Kok Ts own idx v) (hcal : ∀ idx a rc f, cal idx = some (a, rc, f) → pm_Cal l Ts R own sh N idx a rc f) {ins : Instr} {len : Nat} (hd : decode cc pc = .ok (ins, len)) (ht : pm_tok pc ins len = true) (h : pm_ins sh fld cst cal nL rt ins pc ls st σ = some (.inl x)) (K : pm_G p l e R s m args below meth c Q D lay cy sh N nL A x) : pm_G p l e R s m args below meth c Q D lay cy sh N nL A (pc, ls, st, σ) := by
  cases ins with
  | iconst n =>
    have e9 := pm_tok_len 1 rfl (by decide) ht; subst e9
    exact pi_iconst hx hb hd h K
  | bipush n =>
    have e9 := pm_tok_len 2 rfl (by decide) ht; subst e9
    exact pi_bipush hx hb hd h K
  | sipush n =>
    have e9 := pm_tok_len 3 rfl (by decide) ht; subst e9
    exact pi_sipush hx hb hd h K
  | lconst n =>
    have e9 := pm_tok_len 1 rfl (by decide) ht; subst e9
    exact pi_lconst hx hb hd h K
  | iload_n k =>
    have e9 := pm_tok_len 1 rfl (by decide) ht; subst e9
    exact pi_iload_n hx hb hd h K
  | iload k =>
    have e9 := pm_tok_len 2 rfl (by decide) ht; subst e9
    exact pi_iload hx hb hd h K
  | lload_n k =>
    have e9 := pm_tok_len 1 rfl (by decide) ht; subst e9
    exact pi_lload_n hx hb hd h K
  | lload k =>
    have e9 := pm_tok_len 2 rfl (by decide) ht; subst e9
    exact pi_lload hx hb hd h K
  | aload_n k =>
    have e9 := pm_tok_len 1 rfl (by decide) ht; subst e9
    exact pi_aload_n hx hb hd h K
  | aload k =>
    have e9 := pm_tok_len 2 rfl (by decide) ht; subst e9
    exact pi_aload hx hb hd h K
  | istore_n k =>
    have e9 := pm_tok_len 1 rfl (by decide) ht; subst e9
    exact pi_istore_n hx hb hd h K
  | istore k =>
    have e9 := pm_tok_len 2 rfl (by decide) ht; subst e9
    exact pi_istore hx hb hd h K
  | astore_n k =>
    have e9 := pm_tok_len 1 rfl (by decide) ht; subst e9
    exact pi_astore_n hx hb hd h K
  | astore k =>
    have e9 := pm_tok_len 2 rfl (by decide) ht; subst e9
    exact pi_astore hx hb hd h K
  | lstore k =>
    have e9 := pm_tok_len 2 rfl (by decide) ht; subst e9
    exact pi_lstore hx hb hd h K
  | iinc k n =>
    have e9 := pm_tok_len 3 rfl (by decide) ht; subst e9
    exact pi_iinc hx hb hd h K
  | iadd =>
    have e9 := pm_tok_len 1 rfl (by decide) ht; subst e9
    exact pi_iadd hx hb hd h K
  | isub =>
    have e9 := pm_tok_len 1 rfl (by decide) ht; subst e9
    exact pi_isub hx hb hd h K
  | imul =>
    have e9 := pm_tok_len 1 rfl (by decide) ht; subst e9
    exact pi_imul hx hb hd h K
  | iand =>
    have e9 := pm_tok_len 1 rfl (by decide) ht; subst e9
    exact pi_iand hx hb hd h K
  | ior =>
    have e9 := pm_tok_len 1 rfl (by decide) ht; subst e9
    exact pi_ior hx hb hd h K
  | ishl =>
    have e9 := pm_tok_len 1 rfl (by decide) ht; subst e9
    exact pi_ishl hx hb hd h K
  | iushr =>
    have e9 := pm_tok_len 1 rfl (by decide) ht; subst e9
    exact pi_iushr hx hb hd h K
  | irem =>
    have e9 := pm_tok_len 1 rfl (by decide) ht; subst e9
    exact pi_irem hx hb hd h K
  | ladd =>
    have e9 := pm_tok_len 1 rfl (by decide) ht; subst e9
    exact pi_ladd hx hb hd h K
  | lsub =>
    have e9 := pm_tok_len 1 rfl (by decide) ht; subst e9
    exact pi_lsub hx hb hd h K
  | lmul =>
    have e9 := pm_tok_len 1 rfl (by decide) ht; subst e9
    exact pi_lmul hx hb hd h K
  | land =>
    have e9 := pm_tok_len 1 rfl (by decide) ht; subst e9
    exact pi_land hx hb hd h K
  | lor =>
    have e9 := pm_tok_len 1 rfl (by decide) ht; subst e9
    exact pi_lor hx hb hd h K
  | lrem =>
    have e9 := pm_tok_len 1 rfl (by decide) ht; subst e9
    exact pi_lrem hx hb hd h K
  | lcmp =>
    have e9 := pm_tok_len 1 rfl (by decide) ht; subst e9
    exact pi_lcmp hx hb hd h K
  | lshl =>
    have e9 := pm_tok_len 1 rfl (by decide) ht; subst e9
    exact pi_lshl hx hb hd h K
  | i2l =>
    have e9 := pm_tok_len 1 rfl (by decide) ht; subst e9
    exact pi_i2l hx hb hd h K
  | l2i =>
    have e9 := pm_tok_len 1 rfl (by decide) ht; subst e9
    exact pi_l2i hx hb hd h K
  | dup =>
    have e9 := pm_tok_len 1 rfl (by decide) ht; subst e9
    exact pi_dup hx hb hd h K
  | dup2 =>
    have e9 := pm_tok_len 1 rfl (by decide) ht; subst e9
    exact pi_dup2 hx hb hd h K
  | pop =>
    have e9 := pm_tok_len 1 rfl (by decide) ht; subst e9
    exact pi_pop hx hb hd h K
  | goto off =>
    have e9 := pm_tok_len 3 rfl (by decide) ht; subst e9
    exact pi_goto hx hb hd h K
  | tableswitch a b d f =>
    skip
    exact pi_tsw hx hb hd h K
  | lookupswitch a b =>
    skip
    exact pi_lsw hx hb hd h K
  | ldc k =>
    have e9 := pm_tok_len 2 rfl (by decide) ht; subst e9
    exact pi_ldc hx hb hown (fun y hy => hts _ (hcst k _ hy)) hd h K
  | ldc_w k =>
    have e9 := pm_tok_len 3 rfl (by decide) ht; subst e9
    exact pi_ldcw hx hb hown (fun y hy => hts _ (hcst k _ hy)) hd h K
  | ldc2_w k =>
    have e9 := pm_tok_len 3 rfl (by decide) ht; subst e9
    exact pi_ldc2 hx hb hown (fun y hy => hts _ (hcst k _ hy)) hd h K
  | getfield k =>
    have e9 := pm_tok_len 3 rfl (by decide) ht; subst e9
    exact pi_get hx hb hown hts hK hN (fun ci k9 hq => hfld k ci k9 hq) hd h K
  | putfield k =>
    have e9 := pm_tok_len 3 rfl (by decide) ht; subst e9
    exact pi_put hx hb hown hts hK hN (fun ci k9 hq => hfld k ci k9 hq) hd h K
  | iaload =>
    have e9 := pm_tok_len 1 rfl (by decide) ht; subst e9
    exact pi_ial hx hb hK hN hd h K
  | baload =>
    have e9 := pm_tok_len 1 rfl (by decide) ht; subst e9
    exact pi_zal hx hb hK hN hd h K
  | laload =>
    have e9 := pm_tok_len 1 rfl (by decide) ht; subst e9
    exact pi_lal hx hb hK hN hd h K
  | aaload =>
    have e9 := pm_tok_len 1 rfl (by decide) ht; subst e9
    exact pi_aal hx hb hK hN hd h K
  | iastore =>
    have e9 := pm_tok_len 1 rfl (by decide) ht; subst e9
    exact pi_ias hx hb hK hN hd h K
  | bastore =>
    have e9 := pm_tok_len 1 rfl (by decide) ht; subst e9
    exact pi_zas hx hb hK hN hd h K
  | lastore =>
    have e9 := pm_tok_len 1 rfl (by decide) ht; subst e9
    exact pi_las hx hb hK hN hd h K
  | arraylength =>
    have e9 := pm_tok_len 1 rfl (by decide) ht; subst e9
    exact pi_al hx hb hK hN hd h K
  | invokevirtual k =>
    have e9 := pm_tok_len 3 rfl (by decide) ht; subst e9
    exact pi_callV hx hb hml hown hts hK hN hA (fun a rc f hq => hcal k a rc f hq) hd h K
  | invokestatic k =>
    have e9 := pm_tok_len 3 rfl (by decide) ht; subst e9
    exact pi_callS hx hb hml hown hts hK hN hA (fun a rc f hq => hcal k a rc f hq) hd h K
  | ireturn =>
    skip
    exact absurd h (fun h => pm_ret_nl h)
  | lreturn =>
    skip
    exact absurd h (fun h => pm_ret_nl h)
  | return_ =>
    skip
    exact absurd h (fun h => pm_ret_nl h)
  | ifCond cd off =>
    have e9 := pm_tok_len 3 rfl (by decide) ht; subst e9
    have HT := pm_tok_if ht
    cases cd with
    | eq => exact pi_if_eq hx hb HT hd h K
    | ne => exact pi_if_ne hx hb HT hd h K
    | lt => exact pi_if_lt hx hb HT hd h K
    | ge => exact pi_if_ge hx hb HT hd h K
    | gt => exact pi_if_gt hx hb HT hd h K
    | le => exact pi_if_le hx hb HT hd h K
  | if_icmp cd off =>
    have e9 := pm_tok_len 3 rfl (by decide) ht; subst e9
    have HT := pm_tok_ic ht
    cases cd with
    | eq => exact pi_ic_eq hx hb HT hd h K
    | ne => exact pi_ic_ne hx hb HT hd h K
    | lt => exact pi_ic_lt hx hb HT hd h K
    | ge => exact pi_ic_ge hx hb HT hd h K
    | gt => exact pi_ic_gt hx hb HT hd h K
    | le => exact pi_ic_le hx hb HT hd h K
  | _ => cases h
set_option maxHeartbeats 4000000 in
theorem pm_end {free : Addr → Prop} {σ' : pST} {r : Option pSV} (hx : p.tables.exec = Jvm.exec) (hb : c.code = cc) (hr : meth.sig.returnType = pm_rt rt) (hlocks : meth.locks = false) (hfr : ∀ q, A q → free q) {ins : Instr} {len : Nat} (hd : decode cc pc = .ok (ins, len)) (ht : pm_tok pc ins len = true) (h : pm_ins sh fld cst cal nL rt ins pc ls st σ = some (.inr (σ', r))) : pm_G p l e R s m args below meth c (MQ below (pm_Q lay cy sh N D A σ' r) args s 0 0 free) D lay cy sh N nL A (pc, ls, st, σ) := by
  cases ins with
  | ireturn =>
    have e9 := pm_tok_len 1 rfl (by decide) ht; subst e9
    exact pi_ret hx hb hr hlocks hfr (Or.inr (Or.inl ⟨rfl, rfl⟩)) hd h
  | lreturn =>
    have e9 := pm_tok_len 1 rfl (by decide) ht; subst e9
    exact pi_ret hx hb hr hlocks hfr (Or.inr (Or.inr ⟨rfl, rfl⟩)) hd h
  | return_ =>
    have e9 := pm_tok_len 1 rfl (by decide) ht; subst e9
    exact pi_ret hx hb hr hlocks hfr (Or.inl ⟨rfl, rfl⟩) hd h
  | ifCond cd off =>
    cases cd <;> (simp only [pm_ins, pm_if, pm_j, pm_go] at h; repeat' split at h) <;> cases h
  | if_icmp cd off =>
    cases cd <;> (simp only [pm_ins, pm_ic, pm_j, pm_go] at h; repeat' split at h) <;> cases h
  | _ => first
    | cases h
    | ((simp only [pm_ins, pm_go, pm_ldc, pm_ldc2, pm_ldi, pm_ldl, pm_lda, pm_sti, pm_sta, pm_stl, pm_inc, pm_ii, pm_ll, pm_irem, pm_lrem, pm_lcmp, pm_lsh, pm_i2l, pm_l2i, pm_dup, pm_dup2, pm_pop, pm_j, pm_tsw, pm_lsw, pm_gf, pm_pf, pm_ial, pm_zal, pm_lal, pm_aal, pm_ias, pm_zas, pm_las, pm_al, pm_call] at h); (repeat' split at h) <;> cases h)
theorem pm_sound (hx : p.tables.exec = Jvm.exec) (hb : c.code = cc) (hml : c.maxLocals = nL) (hown : s.vm.findClass own = some m.cls) (hts : ∀ w ∈ Ts, w.before args s = true) (hK : va_K D vwCl (pm_T cy) s) (hN : ∀ i, N ≤ i → sh i = .inr (9, 0)) (hA : ∀ q, s.heap.size ≤ q → A q) (hfld : ∀ idx ci k, fld idx = some (ci, k) → pm_Fok Ts own idx ci k) (hcst : ∀ idx v, cst idx = some v → pm_Kok Ts own idx v) (hcal : ∀ idx a rc f, cal idx = some (a, rc, f) → pm_Cal l Ts R own sh N idx a rc f) {free : Addr → Prop} (hr : meth.sig.returnType = pm_rt rt) (hlocks : meth.locks = false) (hfr : ∀ q, A q → free q) (htab : ∀ pc q, tab pc = some q → decode cc pc = .ok q ∧ pm_tok pc q.1 q.2 = true) {σ' : pST} {r : Option pSV} : ∀ (n pc : Nat) (ls : pLS) (st : List pSV) (σ : pST), pm_run sh tab fld cst cal nL rt n pc ls st σ = some (σ', r) → pm_G p l e R s m args below meth c (MQ below (pm_Q lay cy sh N D A σ' r) args s 0 0 free) D lay cy sh N nL A (pc, ls, st, σ) := by
  intro n
  induction n with
  | zero => intro pc ls st σ h; cases h
  | succ n ih =>
    intro pc ls st σ h
    unfold pm_run at h
    split at h
    · cases h
    · rename_i q hq
      obtain ⟨h1, h2⟩ := htab pc q hq
      split at h
      · rename_i pc' ls' st' σ9 hs
        exact pm_step hx hb hml hown hts hK hN hA hfld hcst hcal h1 h2 hs (ih pc' ls' st' σ9 h)
      · rename_i r9 hs
        cases h
        exact pm_end hx hb hr hlocks hfr h1 h2 hs
      · cases h
end PMZ
def pm_en : Nat → List pSV → pLS
  | _, [] => []
  | i, v :: vs => (i, v) :: pm_en (if pm_w v = 2 then i + 2 else i + 1) vs
theorem pm_en_L (lay : Nat → Nat) : ∀ (vs : List pSV) (i : Nat), lv_args i (vs.map (pm_v lay)) = pm_L lay (pm_en i vs)
  | [], _ => rfl
  | v :: vs, i => by
    simp only [List.map_cons, lv_args, pm_en, pm_L, pm_cat]
    rw [pm_en_L lay vs]
def pm_sz (vs : List pSV) : Nat := (vs.map pm_w).sum
theorem pm_sl_len (lay : Nat → Nat) : ∀ vs : List pSV, (lg_sl (vs.map (pm_v lay))).length = pm_sz vs
  | [] => rfl
  | v :: vs => by
    have ih := pm_sl_len lay vs
    unfold lg_sl at ih ⊢
    rw [List.map_cons, List.flatMap_cons, List.length_append, ih]
    unfold pm_sz
    rw [List.map_cons, List.sum_cons]
    congr 1
    rcases v with v | v | v <;> rfl
/-- a method as a pure function: its receiver is of the class rc (none: static) -/
def pm_fn (sh : pSH) (rc : Option Nat) (nL : Nat) (run : pLS → pST → Option pRT) : pFN := fun σ vs => if pm_sz vs ≤ nL then (match rc, vs with
  | none, vs => run (pm_en 0 vs) σ
  | some ci, .inr (.inr i) :: vs => if sh i = .inl ci then run (pm_en 0 (.inr (.inr i) :: vs)) σ else none
  | _, _ => none) else none
theorem pm_fn_run {sh : pSH} {rc : Option Nat} {nL : Nat} {run : pLS → pST → Option pRT} {σ : pST} {vs : List pSV} {x : pRT} (h : pm_fn sh rc nL run σ vs = some x) : pm_sz vs ≤ nL ∧ run (pm_en 0 vs) σ = some x := by
  unfold pm_fn at h
  split at h
  · rename_i hz
    refine ⟨hz, ?_⟩
    split at h
    · exact h
    · split at h
      · exact h
      · cases h
    · cases h
  · cases h
theorem pm_fn_recv {sh : pSH} {ci nL : Nat} {run : pLS → pST → Option pRT} {σ : pST} {vs : List pSV} {x : pRT} (h : pm_fn sh (some ci) nL run σ vs = some x) : ∃ i vs', vs = .inr (.inr i) :: vs' ∧ sh i = .inl ci := by
  unfold pm_fn at h
  split at h
  · rcases vs with _ | ⟨v, vs⟩
    · cases h
    · rcases v with v | v | i
      · cases h
      · cases h
      · simp only at h
        split at h
        · rename_i hs
          exact ⟨i, vs, rfl, hs⟩
        · cases h
  · cases h
/-- a method's contract out of its code -/
theorem pm_con {l : Launch} {y : MethodName} {ws ws' : List Cond} {rm : Room} {cc : ByteArray} {nL rt N : Nat} {sh : pSH} {rc : Option Nat} {tab : Nat → Option (Instr × Nat)} {fld : Nat → Option (Nat × Nat)} {cst : Nat → Option (Int32 ⊕ Int64)} {cal : pCL} (hy : plainName y.cls = true) (hw : ws = Cond.code y cc nL (pm_rt rt) :: ws') (hN : ∀ i, N ≤ i → sh i = .inr (9, 0)) (htab : ∀ pc q, tab pc = some q → decode cc pc = .ok q ∧ pm_tok pc q.1 q.2 = true) (hfld : ∀ idx ci k, fld idx = some (ci, k) → pm_Fok ws y.cls idx ci k) (hcst : ∀ idx v, cst idx = some v → pm_Kok ws y.cls idx v) (hcal : ∀ idx a rc f, cal idx = some (a, rc, f) → pm_Cal l ws rm y.cls sh N idx a rc f) (n : Nat) : pm_Con l y ws rm sh N (pm_fn sh rc nL (fun ls σ => pm_run sh tab fld cst cal nL rt n 0 ls [] σ)) := by
  intro D lay cy sz σ vs σ' r hf
  obtain ⟨hz, hrun⟩ := pm_fn_run hf
  refine Met.ofW (cc := cc) (maxL := nL) (ret := pm_rt rt) hy hw ?_
  intro p e s m args below meth c s₁ B hml hv
  obtain ⟨rfl, hsz, hP, hK, hD0⟩ := hv
  have hts := atoms_spec (ws := ws) B.pre
  have hown : s.vm.findClass y.cls = some m.cls := findClass_of_methodNamed B.named
  subst hsz
  have hD := hD0.self (sz := s.heap.size)
  have hl := lv_entry (vs.map (pm_v lay)) (n := nL) (by rw [pm_sl_len]; exact hz)
  rw [pm_en_L] at hl
  rw [lg_entry_eq]
  exact pm_sound (D := D) (lay := lay) (cy := cy) (A := va_A (pm_W lay cy sh N σ) s.heap.size) B.exec B.bytes hml hown hts hK hN (fun q hq => Or.inr hq) hfld hcst hcal B.returns B.notSynchronized (fun q hq => hq) htab n 0 (pm_en 0 vs) [] σ hrun s.heap [] _ hl hP hD va_S.rf

