/-! ===== fields, arrays, returns and calls of the pure machine ===== -/
theorem pm_W_obj {lay : Nat → Nat} {cy : Nat → ClassId} {sh : pSH} {N : Nat} {σ : pST} {i ci : Nat} (h : i < N) (hs : sh i = .inl ci) : (pm_W lay cy sh N σ)[i]? = some (lay i, .inr (ci, pm_fs lay σ i 0 (pm_fk ci))) := by
  rw [pm_W_get h]; unfold pm_E; rw [hs]
theorem pm_W_int {lay : Nat → Nat} {cy : Nat → ClassId} {sh : pSH} {N : Nat} {σ : pST} {i n : Nat} (h : i < N) (hs : sh i = .inr (0, n)) : (pm_W lay cy sh N σ)[i]? = some (lay i, .inl (cy 0, n, .inl (σ.1 i))) := by
  rw [pm_W_get h]; unfold pm_E; rw [hs]; rfl
theorem pm_W_lng {lay : Nat → Nat} {cy : Nat → ClassId} {sh : pSH} {N : Nat} {σ : pST} {i n : Nat} (h : i < N) (hs : sh i = .inr (1, n)) : (pm_W lay cy sh N σ)[i]? = some (lay i, .inl (cy 1, n, .inr (.inl (σ.2 i)))) := by
  rw [pm_W_get h]; unfold pm_E; rw [hs]; rfl
theorem pm_W_boo {lay : Nat → Nat} {cy : Nat → ClassId} {sh : pSH} {N : Nat} {σ : pST} {i n : Nat} (h : i < N) (hs : sh i = .inr (2, n)) : (pm_W lay cy sh N σ)[i]? = some (lay i, .inl (cy 2, n, .inl (σ.1 i))) := by
  rw [pm_W_get h]; unfold pm_E; rw [hs]; rfl
theorem pm_W_ref {lay : Nat → Nat} {cy : Nat → ClassId} {sh : pSH} {N : Nat} {σ : pST} {i n : Nat} (h : i < N) (hs : sh i = .inr (3, n)) : (pm_W lay cy sh N σ)[i]? = some (lay i, .inl (cy 3, n, .inr (.inr (.inr (.inr (fun j => some (lay (i + 1 + 8 * j)))))))) := by
  rw [pm_W_get h]; unfold pm_E; rw [hs]; rfl
theorem pm_E_obj {lay : Nat → Nat} {cy : Nat → ClassId} {sh : pSH} {σ : pST} {i ci : Nat} (hs : sh i = .inl ci) : pm_E lay cy sh σ i = .inr (ci, pm_fs lay σ i 0 (pm_fk ci)) := by unfold pm_E; rw [hs]
theorem pm_E_int {lay : Nat → Nat} {cy : Nat → ClassId} {sh : pSH} {σ : pST} {i n : Nat} (hs : sh i = .inr (0, n)) : pm_E lay cy sh σ i = .inl (cy 0, n, .inl (σ.1 i)) := by unfold pm_E; rw [hs]; rfl
theorem pm_E_lng {lay : Nat → Nat} {cy : Nat → ClassId} {sh : pSH} {σ : pST} {i n : Nat} (hs : sh i = .inr (1, n)) : pm_E lay cy sh σ i = .inl (cy 1, n, .inr (.inl (σ.2 i))) := by unfold pm_E; rw [hs]; rfl
theorem pm_E_boo {lay : Nat → Nat} {cy : Nat → ClassId} {sh : pSH} {σ : pST} {i n : Nat} (hs : sh i = .inr (2, n)) : pm_E lay cy sh σ i = .inl (cy 2, n, .inl (σ.1 i)) := by unfold pm_E; rw [hs]; rfl
theorem pm_ui_s {I : Nat → Nat → Int32} {i k : Nat} {x : Int32} : pm_ui I i k x i = upd (I i) k x := by simp [pm_ui]
theorem pm_ui_n {I : Nat → Nat → Int32} {i k j : Nat} {x : Int32} (h : j ≠ i) : pm_ui I i k x j = I j := by simp [pm_ui, h]
theorem pm_uj_s {J : Nat → Nat → Int64} {i k : Nat} {x : Int64} : pm_uj J i k x i = vp_updL (J i) k x := by simp [pm_uj]
theorem pm_uj_n {J : Nat → Nat → Int64} {i k j : Nat} {x : Int64} (h : j ≠ i) : pm_uj J i k x j = J j := by simp [pm_uj, h]
theorem pm_ui_e {I : Nat → Nat → Int32} {i k : Nat} {x : Int32} : pm_ui I i k x i k = x := by simp [pm_ui, upd]
theorem pm_ui_o {I : Nat → Nat → Int32} {i k a b : Nat} {x : Int32} (h : b ≠ k) : pm_ui I i k x a b = I a b := by
  by_cases ha : a = i
  · subst ha; simp [pm_ui, upd, h]
  · simp [pm_ui, ha]
theorem pm_uj_e {J : Nat → Nat → Int64} {i k : Nat} {x : Int64} : pm_uj J i k x i k = x := by simp [pm_uj, vp_updL]
theorem pm_uj_o {J : Nat → Nat → Int64} {i k a b : Nat} {x : Int64} (h : b ≠ k) : pm_uj J i k x a b = J a b := by
  by_cases ha : a = i
  · subst ha; simp [pm_uj, vp_updL, h]
  · simp [pm_uj, ha]
theorem pm_kd_at {ci k q : Nat} {r : vw_C} (hc : vwCl[ci]? = some r) (hk : k < r.2.2) (hq : (pm_fk ci)[k]? = some q) : pm_kd q (r.2.1 k) = true := by
  have h := (pm_cl ci r hc).2.2.2 k hk
  rw [List.getD_eq_getElem?_getD, hq] at h
  exact h
section PMH
variable {p : Program} {l : Launch} {e : Env} {R : Room} {s : State} {m : MethodId} {args : Array Value} {below : List Frame} {meth : Method} {c : Code} {Q : State → Prop}
variable {D : va_G} {lay : Nat → Nat} {cy : Nat → ClassId} {sh : pSH} {N nL : Nat} {A : Nat → Prop} {cc : ByteArray} {pc : Nat} {ls : pLS} {st : List pSV} {σ : pST} {x : pNX}
variable {own : String} {Ts : List Cond}
theorem pi_get (hx : p.tables.exec = Jvm.exec) (hb : c.code = cc) (hown : s.vm.findClass own = some m.cls) (hts : ∀ w ∈ Ts, w.before args s = true) (hK : va_K D vwCl (pm_T cy) s) (hN : ∀ i, N ≤ i → sh i = .inr (9, 0)) {idx : Nat} {q : Option (Nat × Nat)} (hF : ∀ ci k, q = some (ci, k) → pm_Fok Ts own idx ci k) (hd : decode cc pc = .ok (.getfield idx, 3)) (h : pm_gf sh q (pc + 3) ls st σ = some (.inl x)) (K : pm_G p l e R s m args below meth c Q D lay cy sh N nL A x) : pm_G p l e R s m args below meth c Q D lay cy sh N nL A (pc, ls, st, σ) := by
  intro H locs lsA hl hP hD hS
  unfold pm_gf at h
  split at h
  · rename_i ci k i r
    split at h
    · rename_i hsh
      obtain ⟨⟨C, T, n⟩, hc, hk, hlink, hin⟩ := hF ci k rfl
      have hi : i < N := pm_lt hN (by rw [hsh]; simp)
      have he := pm_W_obj (lay := lay) (cy := cy) (σ := σ) hi hsh
      split at h
      · rename_i hq
        cases h
        exact va_get (D := D) (ci := ci) (v := .int (σ.1 i k)) hx hb hts hin hown hK hP i he hc k hk (hts _ hlink) (fun _ h9 => h9) (by have := pm_fs_get (lay := lay) (σ := σ) (i := i) _ 0 k _ hq; simpa [pm_fv] using this) hd (K H locs lsA hl hP hD hS)
      · rename_i hq
        cases h
        exact va_get (D := D) (ci := ci) (v := .int (σ.1 i k)) hx hb hts hin hown hK hP i he hc k hk (hts _ hlink) (fun _ h9 => h9) (by have := pm_fs_get (lay := lay) (σ := σ) (i := i) _ 0 k _ hq; simpa [pm_fv] using this) hd (K H locs lsA hl hP hD hS)
      · rename_i hq
        cases h
        exact va_get (D := D) (ci := ci) (v := .long (σ.2 i k)) hx hb hts hin hown hK hP i he hc k hk (hts _ hlink) (fun _ h9 => h9) (by have := pm_fs_get (lay := lay) (σ := σ) (i := i) _ 0 k _ hq; simpa [pm_fv] using this) hd (K H locs lsA hl hP hD hS)
      · rename_i hq
        cases h
        exact va_get (D := D) (ci := ci) (v := .int (σ.1 i k)) hx hb hts hin hown hK hP i he hc k hk (hts _ hlink) (fun _ h9 => h9) (by have := pm_fs_get (lay := lay) (σ := σ) (i := i) _ 0 k _ hq; simpa [pm_fv] using this) hd (K H locs lsA hl hP hD hS)
      · rename_i d hq
        cases h
        exact va_get (D := D) (ci := ci) (v := .ref (lay (i + d))) hx hb hts hin hown hK hP i he hc k hk (hts _ hlink) (fun _ h9 => h9) (by have := pm_fs_get (lay := lay) (σ := σ) (i := i) _ 0 k _ hq; simpa [pm_fv] using this) hd (K H locs lsA hl hP hD hS)
      · cases h
    · cases h
  · cases h
theorem pi_put (hx : p.tables.exec = Jvm.exec) (hb : c.code = cc) (hown : s.vm.findClass own = some m.cls) (hts : ∀ w ∈ Ts, w.before args s = true) (hK : va_K D vwCl (pm_T cy) s) (hN : ∀ i, N ≤ i → sh i = .inr (9, 0)) {idx : Nat} {q : Option (Nat × Nat)} (hF : ∀ ci k, q = some (ci, k) → pm_Fok Ts own idx ci k) (hd : decode cc pc = .ok (.putfield idx, 3)) (h : pm_pf sh q (pc + 3) ls st σ = some (.inl x)) (K : pm_G p l e R s m args below meth c Q D lay cy sh N nL A x) : pm_G p l e R s m args below meth c Q D lay cy sh N nL A (pc, ls, st, σ) := by
  intro H locs lsA hl hP hD hS
  unfold pm_pf at h
  split at h
  · rename_i ci k y i r
    split at h
    · rename_i hsh
      obtain ⟨⟨C, T, n⟩, hc, hk, hlink, hin⟩ := hF ci k rfl
      have hi : i < N := pm_lt hN (by rw [hsh]; simp)
      have he := pm_W_obj (lay := lay) (cy := cy) (σ := σ) hi hsh
      obtain ⟨hlen, ⟨ty, hty⟩, hnm, -⟩ := pm_cl ci _ hc
      have hl9 : k < (pm_fs lay σ i 0 (pm_fk ci)).length := by rw [pm_fs_len, hlen]; exact hk
      have hset : ∀ qq, (pm_fk ci)[k]? = some qq → (∀ σ9 : pST, pm_fv lay σ9 i k qq = .int (σ9.1 i k)) → (pm_W lay cy sh N σ).set i (lay i, .inr (ci, (pm_fs lay σ i 0 (pm_fk ci)).set k (.int y))) = pm_W lay cy sh N (pm_ui σ.1 i k y, σ.2) := by
        intro qq hq hfv
        refine pm_W_set (σ := σ) (σ' := (pm_ui σ.1 i k y, σ.2)) hi (fun j hj => ⟨pm_ui_n hj, rfl⟩) ?_
        rw [pm_E_obj hsh, pm_fs_set (σ' := (pm_ui σ.1 i k y, σ.2)) _ 0 k _ hq (by rw [Nat.zero_add, hfv]; exact congrArg _ pm_ui_e) (fun k' hk' => ⟨pm_ui_o (by omega), rfl⟩)]
      split at h
      · rename_i hq
        cases h
        have hkd := pm_kd_at hc hk hq
        simp only [pm_kd, Bool.and_eq_true, Bool.not_eq_true', decide_eq_true_eq] at hkd
        refine va_put (D := D) (ci := ci) (v := .int y) (ty := .int) hx hb hts hin ty hty hnm hown hK hP hD hS i he hc k hk (hts _ hlink) (fun _ h9 => h9) hkd.1 hkd.2 rfl rfl hl9 hd (fun H1 locs1 hP1 hD1 hS1 => ?_)
        rw [hset _ hq (fun _ => rfl)] at hP1 hD1
        exact K H1 locs1 lsA hl hP1 hD1 hS1
      · rename_i hq
        split at h
        · rename_i hy
          cases h
          have hkd := pm_kd_at hc hk hq
          simp only [pm_kd, Bool.and_eq_true, Bool.not_eq_true', decide_eq_true_eq] at hkd
          refine va_put (D := D) (ci := ci) (v := .int y) (ty := .boolean) hx hb hts hin ty hty hnm hown hK hP hD hS i he hc k hk (hts _ hlink) (fun _ h9 => h9) hkd.1 hkd.2 (by rcases hy with rfl | rfl <;> rfl) (by rcases hy with rfl | rfl <;> rfl) hl9 hd (fun H1 locs1 hP1 hD1 hS1 => ?_)
          rw [hset _ hq (fun _ => rfl)] at hP1 hD1
          exact K H1 locs1 lsA hl hP1 hD1 hS1
        · cases h
      · cases h
    · cases h
  · rename_i ci k y i r
    split at h
    · rename_i hsh
      obtain ⟨⟨C, T, n⟩, hc, hk, hlink, hin⟩ := hF ci k rfl
      have hi : i < N := pm_lt hN (by rw [hsh]; simp)
      have he := pm_W_obj (lay := lay) (cy := cy) (σ := σ) hi hsh
      obtain ⟨hlen, ⟨ty, hty⟩, hnm, -⟩ := pm_cl ci _ hc
      have hl9 : k < (pm_fs lay σ i 0 (pm_fk ci)).length := by rw [pm_fs_len, hlen]; exact hk
      split at h
      · rename_i hq
        cases h
        have hkd := pm_kd_at hc hk hq
        simp only [pm_kd, Bool.and_eq_true, Bool.not_eq_true', decide_eq_true_eq] at hkd
        have hset : (pm_W lay cy sh N σ).set i (lay i, .inr (ci, (pm_fs lay σ i 0 (pm_fk ci)).set k (.long y))) = pm_W lay cy sh N (σ.1, pm_uj σ.2 i k y) := by
          refine pm_W_set (σ := σ) (σ' := (σ.1, pm_uj σ.2 i k y)) hi (fun j hj => ⟨rfl, pm_uj_n hj⟩) ?_
          rw [pm_E_obj hsh, pm_fs_set (lay := lay) (σ := σ) (σ' := (σ.1, pm_uj σ.2 i k y)) (i := i) (v := .long y) _ 0 k _ hq (by rw [Nat.zero_add]; exact congrArg Value.long pm_uj_e) (fun k' hk' => ⟨rfl, pm_uj_o (by omega)⟩)]
        refine va_put (D := D) (ci := ci) (v := .long y) (ty := .long) hx hb hts hin ty hty hnm hown hK hP hD hS i he hc k hk (hts _ hlink) (fun _ h9 => h9) hkd.1 hkd.2 rfl rfl hl9 hd (fun H1 locs1 hP1 hD1 hS1 => ?_)
        rw [hset] at hP1 hD1
        exact K H1 locs1 lsA hl hP1 hD1 hS1
      · cases h
    · cases h
  · cases h
theorem pi_ial (hx : p.tables.exec = Jvm.exec) (hb : c.code = cc) (hK : va_K D vwCl (pm_T cy) s) (hN : ∀ i, N ≤ i → sh i = .inr (9, 0)) (hd : decode cc pc = .ok (.iaload, 1)) (h : pm_ial sh (pc + 1) ls st σ = some (.inl x)) (K : pm_G p l e R s m args below meth c Q D lay cy sh N nL A x) : pm_G p l e R s m args below meth c Q D lay cy sh N nL A (pc, ls, st, σ) := by
  intro H locs lsA hl hP hD hS
  unfold pm_ial at h
  split at h
  · rename_i j i r
    split at h
    · rename_i n hsh
      split at h
      · cases h
      · rename_i hin
        cases h
        exact va_iald hx hb hK hP i 0 (pm_W_int (pm_lt hN (by rw [hsh]; simp)) hsh) rfl hin hd (K H locs lsA hl hP hD hS)
    · cases h
  · cases h
theorem pi_zal (hx : p.tables.exec = Jvm.exec) (hb : c.code = cc) (hK : va_K D vwCl (pm_T cy) s) (hN : ∀ i, N ≤ i → sh i = .inr (9, 0)) (hd : decode cc pc = .ok (.baload, 1)) (h : pm_zal sh (pc + 1) ls st σ = some (.inl x)) (K : pm_G p l e R s m args below meth c Q D lay cy sh N nL A x) : pm_G p l e R s m args below meth c Q D lay cy sh N nL A (pc, ls, st, σ) := by
  intro H locs lsA hl hP hD hS
  unfold pm_zal at h
  split at h
  · rename_i j i r
    split at h
    · rename_i n hsh
      split at h
      · cases h
      · rename_i hin
        cases h
        exact va_zald hx hb hK hP i 2 (pm_W_boo (pm_lt hN (by rw [hsh]; simp)) hsh) rfl hin hd (K H locs lsA hl hP hD hS)
    · cases h
  · cases h
theorem pi_lal (hx : p.tables.exec = Jvm.exec) (hb : c.code = cc) (hK : va_K D vwCl (pm_T cy) s) (hN : ∀ i, N ≤ i → sh i = .inr (9, 0)) (hd : decode cc pc = .ok (.laload, 1)) (h : pm_lal sh (pc + 1) ls st σ = some (.inl x)) (K : pm_G p l e R s m args below meth c Q D lay cy sh N nL A x) : pm_G p l e R s m args below meth c Q D lay cy sh N nL A (pc, ls, st, σ) := by
  intro H locs lsA hl hP hD hS
  unfold pm_lal at h
  split at h
  · rename_i j i r
    split at h
    · rename_i n hsh
      split at h
      · cases h
      · rename_i hin
        cases h
        exact va_lald hx hb hK hP i 1 (pm_W_lng (pm_lt hN (by rw [hsh]; simp)) hsh) rfl hin hd (K H locs lsA hl hP hD hS)
    · cases h
  · cases h
theorem pi_aal (hx : p.tables.exec = Jvm.exec) (hb : c.code = cc) (hK : va_K D vwCl (pm_T cy) s) (hN : ∀ i, N ≤ i → sh i = .inr (9, 0)) (hd : decode cc pc = .ok (.aaload, 1)) (h : pm_aal sh (pc + 1) ls st σ = some (.inl x)) (K : pm_G p l e R s m args below meth c Q D lay cy sh N nL A x) : pm_G p l e R s m args below meth c Q D lay cy sh N nL A (pc, ls, st, σ) := by
  intro H locs lsA hl hP hD hS
  unfold pm_aal at h
  split at h
  · rename_i j i r
    split at h
    · rename_i n hsh
      split at h
      · cases h
      · rename_i hin
        cases h
        exact va_aldq hx hb hK hP i 3 (pm_W_ref (pm_lt hN (by rw [hsh]; simp)) hsh) rfl hin hd (K H locs lsA hl hP hD hS)
    · cases h
  · cases h
theorem pi_ias (hx : p.tables.exec = Jvm.exec) (hb : c.code = cc) (hK : va_K D vwCl (pm_T cy) s) (hN : ∀ i, N ≤ i → sh i = .inr (9, 0)) (hd : decode cc pc = .ok (.iastore, 1)) (h : pm_ias sh (pc + 1) ls st σ = some (.inl x)) (K : pm_G p l e R s m args below meth c Q D lay cy sh N nL A x) : pm_G p l e R s m args below meth c Q D lay cy sh N nL A (pc, ls, st, σ) := by
  intro H locs lsA hl hP hD hS
  unfold pm_ias at h
  split at h
  · rename_i y j i r
    split at h
    · rename_i n hsh
      split at h
      · cases h
      · rename_i hin
        cases h
        have hi : i < N := pm_lt hN (by rw [hsh]; simp)
        refine va_iast hx hb hK hP hD hS i 0 (pm_W_int hi hsh) rfl hin hd (fun H1 locs1 hP1 hD1 hS1 => ?_)
        have hset : (pm_W lay cy sh N σ).set i (lay i, .inl (cy 0, n, .inl (upd (σ.1 i) j.toNatClampNeg y))) = pm_W lay cy sh N (pm_ui σ.1 i j.toNatClampNeg y, σ.2) := by
          refine pm_W_set (σ := σ) (σ' := (pm_ui σ.1 i j.toNatClampNeg y, σ.2)) hi (fun a ha => ⟨pm_ui_n ha, rfl⟩) ?_
          rw [pm_E_int hsh]
          exact congrArg (fun f => Sum.inl (cy 0, n, Sum.inl f)) pm_ui_s.symm
        rw [hset] at hP1 hD1
        exact K H1 locs1 lsA hl hP1 hD1 hS1
    · cases h
  · cases h
theorem pi_zas (hx : p.tables.exec = Jvm.exec) (hb : c.code = cc) (hK : va_K D vwCl (pm_T cy) s) (hN : ∀ i, N ≤ i → sh i = .inr (9, 0)) (hd : decode cc pc = .ok (.bastore, 1)) (h : pm_zas sh (pc + 1) ls st σ = some (.inl x)) (K : pm_G p l e R s m args below meth c Q D lay cy sh N nL A x) : pm_G p l e R s m args below meth c Q D lay cy sh N nL A (pc, ls, st, σ) := by
  intro H locs lsA hl hP hD hS
  unfold pm_zas at h
  split at h
  · rename_i y j i r
    split at h
    · rename_i n hsh
      split at h
      · cases h
      · rename_i hin
        split at h
        · rename_i hy
          cases h
          have hi : i < N := pm_lt hN (by rw [hsh]; simp)
          have hyn : vp_nar .boolean y = y := by rcases hy with rfl | rfl <;> rfl
          refine va_zast hx hb hK hP hD hS i 2 (pm_W_boo hi hsh) rfl hin hd (fun H1 locs1 hP1 hD1 hS1 => ?_)
          rw [hyn] at hP1 hD1
          have hset : (pm_W lay cy sh N σ).set i (lay i, .inl (cy 2, n, .inl (upd (σ.1 i) j.toNatClampNeg y))) = pm_W lay cy sh N (pm_ui σ.1 i j.toNatClampNeg y, σ.2) := by
            refine pm_W_set (σ := σ) (σ' := (pm_ui σ.1 i j.toNatClampNeg y, σ.2)) hi (fun a ha => ⟨pm_ui_n ha, rfl⟩) ?_
            rw [pm_E_boo hsh]
            exact congrArg (fun f => Sum.inl (cy 2, n, Sum.inl f)) pm_ui_s.symm
          rw [hset] at hP1 hD1
          exact K H1 locs1 lsA hl hP1 hD1 hS1
        · cases h
    · cases h
  · cases h
theorem pi_las (hx : p.tables.exec = Jvm.exec) (hb : c.code = cc) (hK : va_K D vwCl (pm_T cy) s) (hN : ∀ i, N ≤ i → sh i = .inr (9, 0)) (hd : decode cc pc = .ok (.lastore, 1)) (h : pm_las sh (pc + 1) ls st σ = some (.inl x)) (K : pm_G p l e R s m args below meth c Q D lay cy sh N nL A x) : pm_G p l e R s m args below meth c Q D lay cy sh N nL A (pc, ls, st, σ) := by
  intro H locs lsA hl hP hD hS
  unfold pm_las at h
  split at h
  · rename_i y j i r
    split at h
    · rename_i n hsh
      split at h
      · cases h
      · rename_i hin
        cases h
        have hi : i < N := pm_lt hN (by rw [hsh]; simp)
        refine va_last hx hb hK hP hD hS i 1 (pm_W_lng hi hsh) rfl hin hd (fun H1 locs1 hP1 hD1 hS1 => ?_)
        have hset : (pm_W lay cy sh N σ).set i (lay i, .inl (cy 1, n, .inr (.inl (vp_updL (σ.2 i) j.toNatClampNeg y)))) = pm_W lay cy sh N (σ.1, pm_uj σ.2 i j.toNatClampNeg y) := by
          refine pm_W_set (σ := σ) (σ' := (σ.1, pm_uj σ.2 i j.toNatClampNeg y)) hi (fun a ha => ⟨rfl, pm_uj_n ha⟩) ?_
          rw [pm_E_lng hsh]
          exact congrArg (fun f => Sum.inl (cy 1, n, Sum.inr (Sum.inl f))) pm_uj_s.symm
        rw [hset] at hP1 hD1
        exact K H1 locs1 lsA hl hP1 hD1 hS1
    · cases h
  · cases h
theorem pi_al (hx : p.tables.exec = Jvm.exec) (hb : c.code = cc) (hK : va_K D vwCl (pm_T cy) s) (hN : ∀ i, N ≤ i → sh i = .inr (9, 0)) (hd : decode cc pc = .ok (.arraylength, 1)) (h : pm_al sh (pc + 1) ls st σ = some (.inl x)) (K : pm_G p l e R s m args below meth c Q D lay cy sh N nL A x) : pm_G p l e R s m args below meth c Q D lay cy sh N nL A (pc, ls, st, σ) := by
  intro H locs lsA hl hP hD hS
  unfold pm_al at h
  split at h
  · rename_i i r
    split at h
    · rename_i n hsh
      cases h
      exact va_alen hx hb hK hP i 0 (pm_W_int (pm_lt hN (by rw [hsh]; simp)) hsh) rfl rfl hd (K H locs lsA hl hP hD hS)
    · rename_i n hsh
      cases h
      exact va_alen hx hb hK hP i 1 (pm_W_lng (pm_lt hN (by rw [hsh]; simp)) hsh) rfl rfl hd (K H locs lsA hl hP hD hS)
    · cases h
  · cases h
end PMH
