/-! ===== the making machine: constructors over growing cells ===== -/
abbrev dV : Type := Option Nat ⊕ (Int32 ⊕ Int64)
abbrev dC : Type := (Nat × List dV) ⊕ ((Nat × Nat) ⊕ List (Option Nat))
abbrev dX : Type := Nat × (pLS × (List pSV × (List dC × (Nat × Nat))))
abbrev dF : Type := List dC → List pSV → Option (List dC)
def dm_f (lay : Nat → Nat) (v : dV) : Value := match v with
  | .inl r => va_rf (r.map lay)
  | .inr (.inl x) => .int x
  | .inr (.inr x) => .long x
def dm_E (lay : Nat → Nat) (cy : Nat → ClassId) (c : dC) : va_E := match c with
  | .inl q => .inr (q.1, q.2.map (dm_f lay))
  | .inr (.inl (0, n)) => .inl (cy 0, n, .inl (fun _ => 0))
  | .inr (.inl (1, n)) => .inl (cy 1, n, .inr (.inl (fun _ => 0)))
  | .inr (.inl (_, n)) => .inl (cy 2, n, .inl (fun _ => 0))
  | .inr (.inr l) => .inl (cy 3, l.length, .inr (.inr (.inr (.inr (fun j => ((l[j]?).getD none).map lay)))))
abbrev dm_0 : dC := .inr (.inl (0, 0))
def dm_W (lay : Nat → Nat) (cy : Nat → ClassId) (cs : List dC) : va_W := (List.range cs.length).map (fun i => (lay i, dm_E lay cy (cs.getD i dm_0)))
def dm_ok (n : Nat) (c : dC) : Bool := match c with
  | .inl q => q.2.all (fun v => match v with
    | .inl (some r) => decide (r < n)
    | _ => true)
  | .inr (.inl _) => true
  | .inr (.inr l) => l.all (fun r => match r with
    | some r => decide (r < n)
    | none => true)
def dm_cl (cs : List dC) : Bool := cs.all (dm_ok cs.length)
theorem dm_W_get {lay : Nat → Nat} {cy : Nat → ClassId} {cs : List dC} {i : Nat} (h : i < cs.length) : (dm_W lay cy cs)[i]? = some (lay i, dm_E lay cy (cs.getD i dm_0)) := by
  simp [dm_W, List.getElem?_map, List.getElem?_range h]
theorem dm_W_len {lay : Nat → Nat} {cy : Nat → ClassId} {cs : List dC} : (dm_W lay cy cs).length = cs.length := by simp [dm_W]
theorem dm_E_lay {lay lay' : Nat → Nat} {cy : Nat → ClassId} {n : Nat} {c : dC} (hc : dm_ok n c = true) (h : ∀ i, i < n → lay' i = lay i) : dm_E lay' cy c = dm_E lay cy c := by
  rcases c with q | ⟨tc, m⟩ | l
  · unfold dm_E
    simp only
    congr 2
    apply List.map_congr_left
    intro v hv
    have h1 := List.all_eq_true.mp hc v hv
    rcases v with r | v
    · rcases r with _ | r
      · rfl
      · have h2 : r < n := of_decide_eq_true h1
        show va_rf (some (lay' r)) = va_rf (some (lay r))
        rw [h r h2]
    · rcases v with v | v <;> rfl
  · unfold dm_E
    split <;> rename_i e <;> simp_all
  · unfold dm_E
    simp only
    have e : (fun j : Nat => ((l[j]?).getD none).map lay') = (fun j : Nat => ((l[j]?).getD none).map lay) := by
      funext j
      cases hj : l[j]? with
      | none => rfl
      | some r =>
        rcases r with _ | r
        · rfl
        · have h1 := List.all_eq_true.mp hc (some r) (List.mem_of_getElem? hj)
          have h2 : r < n := of_decide_eq_true h1
          show some (lay' r) = some (lay r)
          rw [h r h2]
    rw [e]
theorem dm_W_lay {lay lay' : Nat → Nat} {cy : Nat → ClassId} {cs : List dC} (hc : dm_cl cs = true) (h : ∀ i, i < cs.length → lay' i = lay i) : dm_W lay' cy cs = dm_W lay cy cs := by
  unfold dm_W
  apply List.map_congr_left
  intro i hi
  have hi' : i < cs.length := List.mem_range.mp hi
  have hm : cs.getD i dm_0 ∈ cs := by
    rw [List.getD_eq_getElem?_getD, List.getElem?_eq_getElem hi']
    exact List.getElem_mem hi'
  rw [h i hi', dm_E_lay (List.all_eq_true.mp hc _ hm) h]
theorem dm_W_push {lay : Nat → Nat} {cy : Nat → ClassId} {cs : List dC} {c : dC} : dm_W lay cy (cs ++ [c]) = dm_W lay cy cs ++ [(lay cs.length, dm_E lay cy c)] := by
  unfold dm_W
  rw [List.length_append, List.length_singleton, List.range_succ, List.map_append]
  congr 1
  · apply List.map_congr_left
    intro i hi
    have hi' : i < cs.length := List.mem_range.mp hi
    rw [List.getD_eq_getElem?_getD, List.getD_eq_getElem?_getD, List.getElem?_append_left hi']
  · simp [List.getD_eq_getElem?_getD]
theorem dm_W_set {lay : Nat → Nat} {cy : Nat → ClassId} {cs : List dC} {c : dC} {i : Nat} (hi : i < cs.length) {e : va_E} (he : e = dm_E lay cy c) : (dm_W lay cy cs).set i (lay i, e) = dm_W lay cy (cs.set i c) := by
  subst he
  apply List.ext_getElem?
  intro k
  by_cases hk : k = i
  · subst hk
    rw [List.getElem?_set_self (by rw [dm_W_len]; exact hi), dm_W_get (by rw [List.length_set]; exact hi), List.getD_eq_getElem?_getD, List.getElem?_set_self hi]
    rfl
  · rw [List.getElem?_set_ne (Ne.symm hk)]
    by_cases hkN : k < cs.length
    · rw [dm_W_get hkN, dm_W_get (by rw [List.length_set]; exact hkN), List.getD_eq_getElem?_getD, List.getD_eq_getElem?_getD, List.getElem?_set_ne (Ne.symm hk)]
    · rw [List.getElem?_eq_none (by rw [dm_W_len]; omega), List.getElem?_eq_none (by rw [dm_W_len, List.length_set]; omega)]
def dm_rb (n : Nat) (v : pSV) : Bool := match v with
  | .inr (.inr i) => decide (i < n)
  | _ => true
def dm_rs (n : Nat) (ls : pLS) (st : List pSV) : Bool := ls.all (fun q => dm_rb n q.2) && st.all (dm_rb n)
theorem dm_rb_lay {lay lay' : Nat → Nat} {n : Nat} {v : pSV} (hv : dm_rb n v = true) (h : ∀ i, i < n → lay' i = lay i) : pm_v lay' v = pm_v lay v := by
  rcases v with x | x | i
  · rfl
  · rfl
  · have h2 : i < n := of_decide_eq_true hv
    show Value.ref (lay' i) = Value.ref (lay i)
    rw [h i h2]
theorem dm_rs_lay {lay lay' : Nat → Nat} {n : Nat} {ls : pLS} {st : List pSV} (hr : dm_rs n ls st = true) (h : ∀ i, i < n → lay' i = lay i) : pm_L lay' ls = pm_L lay ls ∧ st.map (pm_v lay') = st.map (pm_v lay) := by
  unfold dm_rs at hr
  rw [Bool.and_eq_true] at hr
  constructor
  · apply List.map_congr_left
    intro q hq
    rw [dm_rb_lay (List.all_eq_true.mp hr.1 q hq) h]
  · apply List.map_congr_left
    intro v hv
    exact dm_rb_lay (List.all_eq_true.mp hr.2 v hv) h
def dm_df (ci : Nat) : List dV := (pm_fk ci).map (fun q => if q = 2 then .inr (.inr 0) else if q < 4 then .inr (.inl 0) else .inl none)
def dm_tc (a : ArrayType) : Option (Nat × FieldType) := match a with
  | .int => some (0, .int)
  | .long => some (1, .long)
  | .boolean => some (2, .boolean)
  | _ => none
abbrev dm_go (x : dX) : Option (dX ⊕ List dC) := some (.inl x)
def dm_ins (fld : Nat → Option (Nat × Nat)) (nw : Nat → Option Nat) (cal : Nat → Option (Nat × (Nat × (dF × (Nat × Nat))))) (nL mc ms : Nat) (ins : Instr) (pc : Nat) (ls : pLS) (st : List pSV) (cs : List dC) (nc ns : Nat) : Option (dX ⊕ List dC) := match ins with
  | .iconst n => dm_go (pc + 1, ls, .inl (Int32.ofInt n) :: st, cs, nc, ns)
  | .bipush n => dm_go (pc + 2, ls, .inl (Int8.ofInt n).toInt32 :: st, cs, nc, ns)
  | .sipush n => dm_go (pc + 3, ls, .inl (Int16.ofInt n).toInt32 :: st, cs, nc, ns)
  | .aload_n k => (match pm_lk ls k with
    | some (.inr (.inr x)) => dm_go (pc + 1, ls, .inr (.inr x) :: st, cs, nc, ns)
    | _ => none)
  | .iload_n k => (match pm_lk ls k with
    | some (.inl x) => dm_go (pc + 1, ls, .inl x :: st, cs, nc, ns)
    | _ => none)
  | .istore_n k => (match st with
    | .inl x :: r => if (k : Nat) < nL then dm_go (pc + 1, pm_s1 ls k (.inl x), r, cs, nc, ns) else none
    | _ => none)
  | .iinc k n => (match pm_lk ls k with
    | some (.inl x) => if k < nL then dm_go (pc + 3, pm_s1 ls k (.inl (x + Int32.ofInt n)), st, cs, nc, ns) else none
    | _ => none)
  | .dup => (match st with
    | v :: r => if pm_w v = 1 then dm_go (pc + 1, ls, v :: v :: r, cs, nc, ns) else none
    | _ => none)
  | .goto off => if 0 ≤ (pc : Int) + off then dm_go (((pc : Int) + off).toNat, ls, st, cs, nc, ns) else none
  | .if_icmp .ge off => (match st with
    | .inl y :: .inl x :: r => if 0 ≤ (pc : Int) + off then (if y ≤ x then dm_go (((pc : Int) + off).toNat, ls, r, cs, nc, ns) else dm_go (pc + 3, ls, r, cs, nc, ns)) else none
    | _ => none)
  | .newarray a => (match st, dm_tc a with
    | .inl x :: r, some (tc, _) => if ¬ x < 0 ∧ x.toNatClampNeg ≤ 1000 ∧ nc + 1 ≤ mc ∧ ns + x.toNatClampNeg ≤ ms ∧ dm_cl cs = true ∧ dm_rs cs.length ls r = true then dm_go (pc + 2, ls, .inr (.inr cs.length) :: r, cs ++ [.inr (.inl (tc, x.toNatClampNeg))], nc + 1, ns + x.toNatClampNeg) else none
    | _, _ => none)
  | .new k => (match nw k with
    | some ci => if nc + 1 ≤ mc ∧ ns + (pm_fk ci).length ≤ ms ∧ dm_cl cs = true ∧ dm_rs cs.length ls st = true then dm_go (pc + 3, ls, .inr (.inr cs.length) :: st, cs ++ [.inl (ci, dm_df ci)], nc + 1, ns + (pm_fk ci).length) else none
    | none => none)
  | .anewarray _ => (match st with
    | .inl x :: r => if ¬ x < 0 ∧ x.toNatClampNeg ≤ 1000 ∧ nc + 1 ≤ mc ∧ ns + x.toNatClampNeg ≤ ms ∧ dm_cl cs = true ∧ dm_rs cs.length ls r = true then dm_go (pc + 3, ls, .inr (.inr cs.length) :: r, cs ++ [.inr (.inr (List.replicate x.toNatClampNeg none))], nc + 1, ns + x.toNatClampNeg) else none
    | _ => none)
  | .getfield k => (match fld k, st with
    | some (ci, j), .inr (.inr i) :: r => (match cs[i]? with
      | some (.inl (c9, fs)) => if c9 = ci then (match fs[j]? with
        | some (.inl (some v)) => dm_go (pc + 3, ls, .inr (.inr v) :: r, cs, nc, ns)
        | _ => none) else none
      | _ => none)
    | _, _ => none)
  | .putfield k => (match fld k, st with
    | some (ci, j), v :: .inr (.inr i) :: r => (match cs[i]?, (pm_fk ci)[j]?, v with
      | some (.inl (c9, fs)), some (_ + 4), .inr (.inr x) => if c9 = ci ∧ j < fs.length then dm_go (pc + 3, ls, r, cs.set i (.inl (c9, fs.set j (.inl (some x)))), nc, ns) else none
      | some (.inl (c9, fs)), some 3, .inl x => if c9 = ci ∧ j < fs.length then dm_go (pc + 3, ls, r, cs.set i (.inl (c9, fs.set j (.inr (.inl x)))), nc, ns) else none
      | some (.inl (c9, fs)), some 0, .inl x => if c9 = ci ∧ j < fs.length then dm_go (pc + 3, ls, r, cs.set i (.inl (c9, fs.set j (.inr (.inl x)))), nc, ns) else none
      | _, _, _ => none)
    | _, _ => none)
  | .aastore => (match st with
    | .inr (.inr v) :: .inl x :: .inr (.inr i) :: r => (match cs[i]?, cs[v]? with
      | some (.inr (.inr l)), some (.inl (0, _)) => if ¬ x < 0 ∧ x.toNatClampNeg < l.length then dm_go (pc + 1, ls, r, cs.set i (.inr (.inr (l.set x.toNatClampNeg (some v)))), nc, ns) else none
      | _, _ => none)
    | _ => none)
  | .invokespecial k => (match cal k with
    | some (0, _) => (match st with
      | .inr (.inr _) :: r => if pm_cs r ≤ 8 then dm_go (pc + 3, ls, r, cs, nc, ns) else none
      | _ => none)
    | some (_ + 1, a, f, c1, s1) => if a ≤ st.length ∧ pm_cs (st.drop a) ≤ 8 ∧ nc + c1 ≤ mc ∧ ns + s1 ≤ ms ∧ dm_rs cs.length ls (st.drop a) = true then (match f cs (st.take a).reverse with
      | some cs' => dm_go (pc + 3, ls, st.drop a, cs', nc + c1, ns + s1)
      | none => none) else none
    | none => none)
  | .return_ => if st = [] ∧ nc = mc ∧ ns = ms then some (.inr cs) else none
  | _ => none
def dm_run (tab : Nat → Option (Instr × Nat)) (fld : Nat → Option (Nat × Nat)) (nw : Nat → Option Nat) (cal : Nat → Option (Nat × (Nat × (dF × (Nat × Nat))))) (nL mc ms : Nat) : Nat → dX → Option (List dC)
  | 0, _ => none
  | n + 1, (pc, ls, st, cs, nc, ns) => match tab pc with
    | none => none
    | some q => match dm_ins fld nw cal nL mc ms q.1 pc ls st cs nc ns with
      | some (.inl x) => dm_run tab fld nw cal nL mc ms n x
      | some (.inr r) => some r
      | none => none
/-- of every class: what `new` makes of it, and its final fields -/
def dm_kd (q : Nat) (own : String) (t : String × String × String × Bool) : Bool := match q with
  | 0 => true
  | 1 => true
  | 2 => true
  | 3 => t.2.2.2 && decide (t.1 = own) && decide (parseFieldDescriptor t.2.2.1 = some .int)
  | _ => t.2.2.2 && decide (t.1 = own) && (match parseFieldDescriptor t.2.2.1 with
    | some (.array _) => true
    | some (.object _) => true
    | _ => false)
def dm_cls (ci : Nat) (q : vw_C) : Prop := (∀ k, k < q.2.2 → dm_kd ((pm_fk ci).getD k 9) q.1 (q.2.1 k) = true) ∧ ∃ ty : Nat → FieldType, (∀ k, k < q.2.2 → parseFieldDescriptor (q.2.1 k).2.2.1 = some (ty k)) ∧ ∀ (lay : Nat → Nat) (j : Nat), j < q.2.2 → defaultValue (ty j) = vp_V ((dm_df ci).map (dm_f lay)) j
theorem dm_cls_0 : dm_cls 0 (RX0, TX0, 18) := ⟨by decide +kernel, tyX0, tyX0_ok, fun lay j hj => by
  rcases j with _ | _ | _ | _ | _ | _ | _ | _ | _ | _ | _ | _ | _ | _ | _ | _ | _ | _ | j <;> first | rfl | (exact absurd hj (by show ¬ (_ + 18 < 18); omega))⟩
theorem dm_cls_1 : dm_cls 1 (RX1, TX1, 3) := ⟨by decide +kernel, tyX1, tyX1_ok, fun lay j hj => by
  rcases j with _ | _ | _ | j <;> first | rfl | (exact absurd hj (by show ¬ (_ + 3 < 3); omega))⟩
theorem dm_cls_2 : dm_cls 2 (RX2, TX2, 6) := ⟨by decide +kernel, tyX2, tyX2_ok, fun lay j hj => by
  rcases j with _ | _ | _ | _ | _ | _ | j <;> first | rfl | (exact absurd hj (by show ¬ (_ + 6 < 6); omega))⟩
theorem dm_cls_3 : dm_cls 3 (RX3, TX3, 3) := ⟨by decide +kernel, tyX3, tyX3_ok, fun lay j hj => by
  rcases j with _ | _ | _ | j <;> first | rfl | (exact absurd hj (by show ¬ (_ + 3 < 3); omega))⟩
theorem dm_cls_4 : dm_cls 4 (RX5, TX5, 4) := ⟨by decide +kernel, tyX5, tyX5_ok, fun lay j hj => by
  rcases j with _ | _ | _ | _ | j <;> first | rfl | (exact absurd hj (by show ¬ (_ + 4 < 4); omega))⟩
theorem dm_cls_5 : dm_cls 5 (RX6, TX6, 17) := ⟨by decide +kernel, tyX6, tyX6_ok, fun lay j hj => by
  rcases j with _ | _ | _ | _ | _ | _ | _ | _ | _ | _ | _ | _ | _ | _ | _ | _ | _ | j <;> first | rfl | (exact absurd hj (by show ¬ (_ + 17 < 17); omega))⟩
theorem dm_cls_6 : dm_cls 6 (RX7, TX7, 5) := ⟨by decide +kernel, tyX7, tyX7_ok, fun lay j hj => by
  rcases j with _ | _ | _ | _ | _ | j <;> first | rfl | (exact absurd hj (by show ¬ (_ + 5 < 5); omega))⟩
theorem dm_cls_7 : dm_cls 7 (RX8, TX8, 61) := ⟨by decide +kernel, tyX8, tyX8_ok, fun lay j hj => by
  rcases j with _ | _ | _ | _ | _ | _ | _ | _ | _ | _ | _ | _ | _ | _ | _ | _ | _ | _ | _ | _ | _ | _ | _ | _ | _ | _ | _ | _ | _ | _ | _ | _ | _ | _ | _ | _ | _ | _ | _ | _ | _ | _ | _ | _ | _ | _ | _ | _ | _ | _ | _ | _ | _ | _ | _ | _ | _ | _ | _ | _ | _ | j <;> first | rfl | (exact absurd hj (by show ¬ (_ + 61 < 61); omega))⟩
theorem dm_clA : ∀ (ci : Nat) (q : vw_C), vwCl[ci]? = some q → dm_cls ci q := by
  intro ci q h
  rcases ci with _ | _ | _ | _ | _ | _ | _ | _ | ci
  · cases h; exact dm_cls_0
  · cases h; exact dm_cls_1
  · cases h; exact dm_cls_2
  · cases h; exact dm_cls_3
  · cases h; exact dm_cls_4
  · cases h; exact dm_cls_5
  · cases h; exact dm_cls_6
  · cases h; exact dm_cls_7
  · simp at h
