/-! ===== the making machine is sound: its steps ===== -/
section DMZ
variable {p : Program} {l : Launch} {e : Env} {R : Room} {s : State} {m : MethodId} {args : Array Value} {below : List Frame} {meth : Method} {c : Code} {Q : State → Prop}
variable {D : va_G} {lay0 : Nat → Nat} {cy : Nat → ClassId} {n0 nL mc ms : Nat} {A : Nat → Prop} {cc : ByteArray} {pc : Nat} {ls : pLS} {st : List pSV} {cs : List dC} {nc ns : Nat} {x : dX}
variable {own : String} {Ts Ns : List Cond} {fld : Nat → Option (Nat × Nat)} {nw : Nat → Option Nat} {cal : Nat → Option (Nat × (Nat × (dF × (Nat × Nat))))} {tab : Nat → Option (Instr × Nat)}
theorem di_newa (hx : p.tables.exec = Jvm.exec) (hb : c.code = cc) (hts : ∀ w ∈ Ts, w.before args s = true) (hK : va_K D vwCl (pm_T cy) s) (hA : ∀ q, s.heap.size ≤ q → A q) (hRc : mc ≤ R.cells) (hRs : ms ≤ R.slots) {a : ArrayType} (hw : ∀ tc ty, dm_tc a = some (tc, ty) → Cond.arrayClass ty ∈ Ts) (hd : decode cc pc = .ok (.newarray a, 2)) (h : dm_ins fld nw cal nL mc ms (.newarray a) pc ls st cs nc ns = some (.inl x)) (K : dm_G p l e R s m args below meth c Q D lay0 cy n0 nL A x) : dm_G p l e R s m args below meth c Q D lay0 cy n0 nL A (pc, ls, st, cs, nc, ns) := by
  intro H locs lsA lay hl0 hn0 hl hP hD hS
  have hn0 : n0 ≤ cs.length := hn0
  have hl : lv_has lsA nL (pm_L lay ls) := hl
  have hP : va_P D vwCl (dm_W lay cy cs) H := hP
  have hD : va_D A (dm_W lay cy cs) := hD
  show W p l e R s m args below meth c H locs nc ns Q (F0 m pc lsA (st.map (pm_v lay)))
  simp only [dm_ins] at h
  split at h
  · rename_i z r tc ty htc
    split at h
    · rename_i hcond
      obtain ⟨g1, g2, g3, g4, g5, g6⟩ := hcond
      cases h
      have fin : ∀ (q : Nat) (H1 : Heap), va_P D vwCl (dm_W lay cy cs ++ [(q, dm_E lay cy (.inr (.inl (tc, z.toNatClampNeg))))]) H1 → va_D A (dm_W lay cy cs ++ [(q, dm_E lay cy (.inr (.inl (tc, z.toNatClampNeg))))]) → va_S A s.heap H1 locs → W p l e R s m args below meth c H1 locs (nc + 1) (ns + z.toNatClampNeg) Q (F0 m (pc + 2) lsA (.ref q :: r.map (pm_v lay))) := by
        intro q H1 hP1 hD1 hS1
        have hg := dm_grow (lay := lay) (cy := cy) (c := .inr (.inl (tc, z.toNatClampNeg))) (q := q) g5 (fun l1 l2 => by unfold dm_E; split <;> rename_i e9 <;> simp_all)
        rw [hg] at hP1 hD1
        obtain ⟨r1, r2⟩ := dm_rs_lay (lay := lay) (lay' := va_up lay cs.length q) g6 (fun i hi => dm_upn hi)
        have K9 := K H1 locs lsA (va_up lay cs.length q) (fun j hj => (dm_upn (Nat.lt_of_lt_of_le hj hn0)).trans (hl0 j hj)) (by show n0 ≤ (cs ++ [_]).length; rw [List.length_append]; exact Nat.le_trans hn0 (Nat.le_add_right _ _)) (by show lv_has lsA nL (pm_L (va_up lay cs.length q) ls); rw [r1]; exact hl) hP1 hD1 hS1
        have e9 : (F0 m (pc + 2) lsA (.ref q :: r.map (pm_v lay))) = F0 m (pc + 2) lsA ((Sum.inr (Sum.inr cs.length) :: r : List pSV).map (pm_v (va_up lay cs.length q))) := by
          rw [List.map_cons, r2]
          show _ = F0 m (pc + 2) lsA (Value.ref (va_up lay cs.length q cs.length) :: _)
          rw [dm_up]
        rw [e9]
        exact K9
      have harr := hts _ (hw tc ty htc)
      cases a with
      | int =>
        cases htc
        have harr9 : (Cond.arrayClass (newarray.typeOf ArrayType.int)).before args s = true := by rw [show newarray.typeOf ArrayType.int = FieldType.int from rfl]; exact harr
        refine va_newa (ty := .int) (a0 := (z.toNatClampNeg, .inl (fun _ => 0))) hx hb harr9 rfl hK hP hD hS hA (fun cA => vp_cell_i cA _ _) g1 rfl (by show z.toNatClampNeg * 4 ≤ _; omega) (by omega) (by omega) hd (fun q cA H1 hK1 hP1 hD1 hS1 => ?_)
        have e1 := dm_cyU hK1 0 rfl
        subst e1
        exact fin q H1 hP1 hD1 hS1
      | long =>
        cases htc
        have harr9 : (Cond.arrayClass (newarray.typeOf ArrayType.long)).before args s = true := by rw [show newarray.typeOf ArrayType.long = FieldType.long from rfl]; exact harr
        refine va_newa (ty := .long) (a0 := (z.toNatClampNeg, .inr (.inl (fun _ => 0)))) hx hb harr9 rfl hK hP hD hS hA (fun cA => vp_cell_l cA _ _) g1 rfl (by show z.toNatClampNeg * 8 ≤ _; omega) (by omega) (by omega) hd (fun q cA H1 hK1 hP1 hD1 hS1 => ?_)
        have e1 := dm_cyU hK1 1 rfl
        subst e1
        exact fin q H1 hP1 hD1 hS1
      | boolean =>
        cases htc
        have harr9 : (Cond.arrayClass (newarray.typeOf ArrayType.boolean)).before args s = true := by rw [show newarray.typeOf ArrayType.boolean = FieldType.boolean from rfl]; exact harr
        refine va_newa (ty := .boolean) (a0 := (z.toNatClampNeg, .inl (fun _ => 0))) hx hb harr9 rfl hK hP hD hS hA (fun cA => vp_cell_i cA _ _) g1 rfl (by show z.toNatClampNeg * 1 ≤ _; omega) (by omega) (by omega) hd (fun q cA H1 hK1 hP1 hD1 hS1 => ?_)
        have e1 := dm_cyU hK1 2 rfl
        subst e1
        exact fin q H1 hP1 hD1 hS1
      | _ => cases htc
    · cases h
  · cases h
theorem di_new (hx : p.tables.exec = Jvm.exec) (hb : c.code = cc) (hown : s.vm.findClass own = some m.cls) (hts : ∀ w ∈ Ts, w.before args s = true) (hK : va_K D vwCl (pm_T cy) s) (hA : ∀ q, s.heap.size ≤ q → A q) (hRc : mc ≤ R.cells) (hRs : ms ≤ R.slots) {idx : Nat} (hw : ∀ ci, nw idx = some ci → dm_nwok Ts own idx ci) (hd : decode cc pc = .ok (.new idx, 3)) (h : dm_ins fld nw cal nL mc ms (.new idx) pc ls st cs nc ns = some (.inl x)) (K : dm_G p l e R s m args below meth c Q D lay0 cy n0 nL A x) : dm_G p l e R s m args below meth c Q D lay0 cy n0 nL A (pc, ls, st, cs, nc, ns) := by
  intro H locs lsA lay hl0 hn0 hl hP hD hS
  have hn0 : n0 ≤ cs.length := hn0
  have hl : lv_has lsA nL (pm_L lay ls) := hl
  have hP : va_P D vwCl (dm_W lay cy cs) H := hP
  have hD : va_D A (dm_W lay cy cs) := hD
  show W p l e R s m args below meth c H locs nc ns Q (F0 m pc lsA (st.map (pm_v lay)))
  simp only [dm_ins] at h
  split at h
  · rename_i ci hci
    split at h
    · rename_i hcond
      obtain ⟨g3, g4, g5, g6⟩ := hcond
      cases h
      obtain ⟨⟨C, T, n⟩, hc, w1, w2, w3, w4⟩ := hw ci hci
      have hlen := (pm_cl ci _ hc).1
      obtain ⟨-, ty, hty, hdef⟩ := dm_clA ci _ hc
      have hlen : (pm_fk ci).length = n := hlen
      rw [hlen] at g4 K
      refine va_new (ci := ci) (fs := (dm_df ci).map (dm_f lay)) hx hb hts w4 ty hty hown (hts _ w1) (hts _ w2) (hts _ w3) hK hP hD hS hA hc (hdef lay) (by omega) (by show ns + n ≤ _; omega) hd (fun q H1 hP1 hD1 hS1 => ?_)
      have hE : dm_E lay cy (.inl (ci, dm_df ci)) = .inr (ci, (dm_df ci).map (dm_f lay)) := rfl
      have hg := dm_grow (lay := lay) (cy := cy) (c := .inl (ci, dm_df ci)) (q := q) g5 (fun l1 l2 => by
        show Sum.inr (ci, (dm_df ci).map (dm_f l1)) = Sum.inr (ci, (dm_df ci).map (dm_f l2))
        congr 2
        apply List.map_congr_left
        intro v hv
        obtain ⟨k, -, rfl⟩ := List.mem_map.mp hv
        split
        · rfl
        · split <;> rfl)
      rw [← hE, hg] at hP1 hD1
      obtain ⟨r1, r2⟩ := dm_rs_lay (lay := lay) (lay' := va_up lay cs.length q) g6 (fun i hi => dm_upn hi)
      have K9 := K H1 locs lsA (va_up lay cs.length q) (fun j hj => (dm_upn (Nat.lt_of_lt_of_le hj hn0)).trans (hl0 j hj)) (by show n0 ≤ (cs ++ [_]).length; rw [List.length_append]; exact Nat.le_trans hn0 (Nat.le_add_right _ _)) (by show lv_has lsA nL (pm_L (va_up lay cs.length q) ls); rw [r1]; exact hl) hP1 hD1 hS1
      have e9 : (F0 m (pc + 3) lsA (.ref q :: st.map (pm_v lay))) = F0 m (pc + 3) lsA ((Sum.inr (Sum.inr cs.length) :: st : List pSV).map (pm_v (va_up lay cs.length q))) := by
        rw [List.map_cons, r2]
        show _ = F0 m (pc + 3) lsA (Value.ref (va_up lay cs.length q cs.length) :: _)
        rw [dm_up]
      rw [e9]
      exact K9
    · cases h
  · cases h
theorem di_newq (hx : p.tables.exec = Jvm.exec) (hb : c.code = cc) (hown : s.vm.findClass own = some m.cls) (hts : ∀ w ∈ Ts, w.before args s = true) (hK : va_K D vwCl (pm_T cy) s) (hA : ∀ q, s.heap.size ≤ q → A q) (hRc : mc ≤ R.cells) (hRs : ms ≤ R.slots) {idx : Nat} (hw : Cond.classLink own idx RX0 ∈ Ts ∧ va_AO RX0 s) (hd : decode cc pc = .ok (.anewarray idx, 3)) (h : dm_ins fld nw cal nL mc ms (.anewarray idx) pc ls st cs nc ns = some (.inl x)) (K : dm_G p l e R s m args below meth c Q D lay0 cy n0 nL A x) : dm_G p l e R s m args below meth c Q D lay0 cy n0 nL A (pc, ls, st, cs, nc, ns) := by
  intro H locs lsA lay hl0 hn0 hl hP hD hS
  have hn0 : n0 ≤ cs.length := hn0
  have hl : lv_has lsA nL (pm_L lay ls) := hl
  have hP : va_P D vwCl (dm_W lay cy cs) H := hP
  have hD : va_D A (dm_W lay cy cs) := hD
  show W p l e R s m args below meth c H locs nc ns Q (F0 m pc lsA (st.map (pm_v lay)))
  simp only [dm_ins] at h
  split at h
  · rename_i z r
    split at h
    · rename_i hcond
      obtain ⟨g1, g2, g3, g4, g5, g6⟩ := hcond
      cases h
      refine va_newq (C := RX0) hx hb hown (hts _ hw.1) hw.2 hK hP hD hS hA g1 rfl (by omega) (by omega) (by omega) hd (fun q cA H1 hK1 hP1 hD1 hS1 => ?_)
      have e1 := dm_cyU hK1 3 rfl
      subst e1
      have hE : dm_E lay cy (.inr (.inr (List.replicate z.toNatClampNeg none))) = .inl (cy 3, z.toNatClampNeg, .inr (.inr (.inr (.inr (fun _ => none))))) := by
        show Sum.inl (cy 3, (List.replicate z.toNatClampNeg none).length, _) = _
        rw [List.length_replicate]
        have e2 : (fun j : Nat => (((List.replicate z.toNatClampNeg (none : Option Nat))[j]?).getD none).map lay) = fun _ => none := by
          funext j
          rw [List.getElem?_replicate]
          split <;> rfl
        rw [e2]
      have hg := dm_grow (lay := lay) (cy := cy) (c := .inr (.inr (List.replicate z.toNatClampNeg none))) (q := q) g5 (fun l1 l2 => dm_E_lay (n := 0) (by
        show (List.replicate z.toNatClampNeg (none : Option Nat)).all _ = true
        rw [List.all_eq_true]
        intro v hv
        rw [(List.mem_replicate.mp hv).2]) (fun i hi => absurd hi (Nat.not_lt_zero _)))
      rw [← hE, hg] at hP1 hD1
      obtain ⟨r1, r2⟩ := dm_rs_lay (lay := lay) (lay' := va_up lay cs.length q) g6 (fun i hi => dm_upn hi)
      have K9 := K H1 locs lsA (va_up lay cs.length q) (fun j hj => (dm_upn (Nat.lt_of_lt_of_le hj hn0)).trans (hl0 j hj)) (by show n0 ≤ (cs ++ [_]).length; rw [List.length_append]; exact Nat.le_trans hn0 (Nat.le_add_right _ _)) (by show lv_has lsA nL (pm_L (va_up lay cs.length q) ls); rw [r1]; exact hl) hP1 hD1 hS1
      have e9 : (F0 m (pc + 3) lsA (.ref q :: r.map (pm_v lay))) = F0 m (pc + 3) lsA ((Sum.inr (Sum.inr cs.length) :: r : List pSV).map (pm_v (va_up lay cs.length q))) := by
        rw [List.map_cons, r2]
        show _ = F0 m (pc + 3) lsA (Value.ref (va_up lay cs.length q cs.length) :: _)
        rw [dm_up]
      rw [e9]
      exact K9
    · cases h
  · cases h
theorem di_get (hx : p.tables.exec = Jvm.exec) (hb : c.code = cc) (hown : s.vm.findClass own = some m.cls) (hts : ∀ w ∈ Ts, w.before args s = true) (hK : va_K D vwCl (pm_T cy) s) {idx : Nat} (hF : ∀ ci k, fld idx = some (ci, k) → pm_Fok Ts own idx ci k) (hd : decode cc pc = .ok (.getfield idx, 3)) (h : dm_ins fld nw cal nL mc ms (.getfield idx) pc ls st cs nc ns = some (.inl x)) (K : dm_G p l e R s m args below meth c Q D lay0 cy n0 nL A x) : dm_G p l e R s m args below meth c Q D lay0 cy n0 nL A (pc, ls, st, cs, nc, ns) := by
  intro H locs lsA lay hl0 hn0 hl hP hD hS
  have hn0 : n0 ≤ cs.length := hn0
  have hl : lv_has lsA nL (pm_L lay ls) := hl
  have hP : va_P D vwCl (dm_W lay cy cs) H := hP
  have hD : va_D A (dm_W lay cy cs) := hD
  show W p l e R s m args below meth c H locs nc ns Q (F0 m pc lsA (st.map (pm_v lay)))
  simp only [dm_ins] at h
  split at h
  · rename_i ci j i r hfl
    split at h
    · rename_i c9 fs hi
      split at h
      · rename_i hcc
        subst hcc
        split at h
        · rename_i v hv
          cases h
          obtain ⟨⟨C, T, n⟩, hc, hk, hlink, hin⟩ := hF _ _ hfl
          obtain ⟨hil, hig⟩ := dm_getD hi
          have he : (dm_W lay cy cs)[i]? = some (lay i, .inr (c9, fs.map (dm_f lay))) := by rw [dm_W_get hil, hig]; rfl
          exact va_get (D := D) (ci := c9) (v := .ref (lay v)) hx hb hts hin hown hK hP i he hc j hk (hts _ hlink) (fun _ h9 => h9) (by rw [List.getElem?_map, hv]; rfl) hd (K H locs lsA lay hl0 hn0 hl hP hD hS)
        · cases h
      · cases h
    · cases h
  · cases h
theorem di_put (hx : p.tables.exec = Jvm.exec) (hb : c.code = cc) (hown : s.vm.findClass own = some m.cls) (hts : ∀ w ∈ Ts, w.before args s = true) (hK : va_K D vwCl (pm_T cy) s) (hin2 : meth.name = "<init>") {idx : Nat} (hF : ∀ ci k, fld idx = some (ci, k) → pm_Fok Ts own idx ci k ∧ ∀ q : vw_C, vwCl[ci]? = some q → q.1 = own) (hd : decode cc pc = .ok (.putfield idx, 3)) (h : dm_ins fld nw cal nL mc ms (.putfield idx) pc ls st cs nc ns = some (.inl x)) (K : dm_G p l e R s m args below meth c Q D lay0 cy n0 nL A x) : dm_G p l e R s m args below meth c Q D lay0 cy n0 nL A (pc, ls, st, cs, nc, ns) := by
  intro H locs lsA lay hl0 hn0 hl hP hD hS
  have hn0 : n0 ≤ cs.length := hn0
  have hl : lv_has lsA nL (pm_L lay ls) := hl
  have hP : va_P D vwCl (dm_W lay cy cs) H := hP
  have hD : va_D A (dm_W lay cy cs) := hD
  show W p l e R s m args below meth c H locs nc ns Q (F0 m pc lsA (st.map (pm_v lay)))
  simp only [dm_ins] at h
  split at h
  · rename_i ci j v i r hfl
    split at h
    · rename_i c9 fs d z hi hq
      split at h
      · rename_i hcc
        obtain ⟨rfl, hkl⟩ := hcc
        cases h
        exact dm_put (lay := lay) (v := .inl (some z)) hx hb hown hts hK hin2 (hF _ _ hfl).1 (hF _ _ hfl).2 hi hkl (Or.inr ⟨d, z, hq, rfl⟩) hd hP hD hS (fun H1 locs1 hP1 hD1 hS1 => K H1 locs1 lsA lay hl0 (by show n0 ≤ (cs.set _ _).length; rw [List.length_set]; exact hn0) hl hP1 hD1 hS1)
      · cases h
    · rename_i c9 fs z hi hq
      split at h
      · rename_i hcc
        obtain ⟨rfl, hkl⟩ := hcc
        cases h
        exact dm_put (lay := lay) (v := .inr (.inl z)) hx hb hown hts hK hin2 (hF _ _ hfl).1 (hF _ _ hfl).2 hi hkl (Or.inl ⟨hq, z, rfl⟩) hd hP hD hS (fun H1 locs1 hP1 hD1 hS1 => K H1 locs1 lsA lay hl0 (by show n0 ≤ (cs.set _ _).length; rw [List.length_set]; exact hn0) hl hP1 hD1 hS1)
      · cases h
    · rename_i c9 fs z hi hq
      split at h
      · rename_i hcc
        obtain ⟨rfl, hkl⟩ := hcc
        cases h
        obtain ⟨⟨C, T, n⟩, hc, hk, hlink, hin⟩ := (hF _ _ hfl).1
        obtain ⟨hil, hig⟩ := dm_getD hi
        have he : (dm_W lay cy cs)[i]? = some (lay i, .inr (c9, fs.map (dm_f lay))) := by rw [dm_W_get hil, hig]; rfl
        obtain ⟨hlen, ⟨ty, hty⟩, hnm, -⟩ := pm_cl c9 _ hc
        have hkd := pm_kd_at hc hk hq
        simp only [pm_kd, Bool.and_eq_true, Bool.not_eq_true', decide_eq_true_eq] at hkd
        refine va_put (D := D) (ci := c9) (v := .int z) (ty := .int) hx hb hts hin ty hty hnm hown hK hP hD hS i he hc j hk (hts _ hlink) (fun _ h9 => h9) hkd.1 hkd.2 rfl rfl (by rw [List.length_map]; exact hkl) hd (fun H1 locs1 hP1 hD1 hS1 => ?_)
        have hset : (dm_W lay cy cs).set i (lay i, .inr (c9, (fs.map (dm_f lay)).set j (.int z))) = dm_W lay cy (cs.set i (.inl (c9, fs.set j (.inr (.inl z))))) := by
          refine dm_W_set hil ?_
          show _ = Sum.inr (c9, (fs.set j (.inr (.inl z))).map (dm_f lay))
          rw [List.map_set]
          rfl
        rw [hset] at hP1 hD1
        exact K H1 locs1 lsA lay hl0 (by show n0 ≤ (cs.set _ _).length; rw [List.length_set]; exact hn0) hl hP1 hD1 hS1
      · cases h
    · cases h
  · cases h
theorem di_ast (hx : p.tables.exec = Jvm.exec) (hb : c.code = cc) (hK : va_K D vwCl (pm_T cy) s) (hd : decode cc pc = .ok (.aastore, 1)) (h : dm_ins fld nw cal nL mc ms .aastore pc ls st cs nc ns = some (.inl x)) (K : dm_G p l e R s m args below meth c Q D lay0 cy n0 nL A x) : dm_G p l e R s m args below meth c Q D lay0 cy n0 nL A (pc, ls, st, cs, nc, ns) := by
  intro H locs lsA lay hl0 hn0 hl hP hD hS
  have hn0 : n0 ≤ cs.length := hn0
  have hl : lv_has lsA nL (pm_L lay ls) := hl
  have hP : va_P D vwCl (dm_W lay cy cs) H := hP
  have hD : va_D A (dm_W lay cy cs) := hD
  show W p l e R s m args below meth c H locs nc ns Q (F0 m pc lsA (st.map (pm_v lay)))
  simp only [dm_ins] at h
  split at h
  · rename_i v z i r
    split at h
    · rename_i lst f9 hi hv
      split at h
      · rename_i hcond
        obtain ⟨g1, g2⟩ := hcond
        cases h
        obtain ⟨hil, hig⟩ := dm_getD hi
        obtain ⟨hvl, hvg⟩ := dm_getD hv
        have he : (dm_W lay cy cs)[i]? = some (lay i, .inl (cy 3, lst.length, .inr (.inr (.inr (.inr (fun j => ((lst[j]?).getD none).map lay)))))) := by rw [dm_W_get hil, hig]; rfl
        have he2 : (dm_W lay cy cs)[v]? = some (lay v, .inr (0, f9.map (dm_f lay))) := by rw [dm_W_get hvl, hvg]; rfl
        refine va_astq (r := (RX0, TX0, 18)) hx hb hK hP hD hS i 3 v 0 he rfl he2 rfl (fun w => by rcases w with w | w; exact g1 w; omega) hd (fun H1 locs1 hP1 hD1 hS1 => ?_)
        have hset : (dm_W lay cy cs).set i (lay i, .inl (cy 3, lst.length, .inr (.inr (.inr (.inr (va_up (fun j => ((lst[j]?).getD none).map lay) z.toNatClampNeg (some (lay v)))))))) = dm_W lay cy (cs.set i (.inr (.inr (lst.set z.toNatClampNeg (some v))))) := by
          refine dm_W_set hil ?_
          show _ = Sum.inl (cy 3, (lst.set z.toNatClampNeg (some v)).length, _)
          rw [List.length_set]
          have e2 : va_up (fun j : Nat => ((lst[j]?).getD none).map lay) z.toNatClampNeg (some (lay v)) = fun j : Nat => (((lst.set z.toNatClampNeg (some v))[j]?).getD none).map lay := by
            funext j
            by_cases hj : j = z.toNatClampNeg
            · subst hj
              rw [List.getElem?_set_self g2]
              simp [va_up]
            · rw [List.getElem?_set_ne (Ne.symm hj)]
              simp [va_up, hj]
          rw [e2]
        rw [hset] at hP1 hD1
        exact K H1 locs1 lsA lay hl0 (by show n0 ≤ (cs.set _ _).length; rw [List.length_set]; exact hn0) hl hP1 hD1 hS1
      · cases h
    · cases h
  · cases h
end DMZ
