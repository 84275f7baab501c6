/-! ===== each instruction of the pure machine by its row of the kit ===== -/
section PMI
variable {p : Program} {l : Launch} {e : Env} {R : Room} {s : State} {m : MethodId} {args : Array Value} {below : List Frame} {meth : Method} {c : Code} {Q : State → Prop}
variable {D : va_G} {lay : Nat → Nat} {cy : Nat → ClassId} {sh : pSH} {N nL : Nat} {A : Nat → Prop} {cc : ByteArray} {pc : Nat} {ls : pLS} {st : List pSV} {σ : pST} {x : pNX}
def pm_G (p : Program) (l : Launch) (e : Env) (R : Room) (s : State) (m : MethodId) (args : Array Value) (below : List Frame) (meth : Method) (c : Code) (Q : State → Prop) (D : va_G) (lay : Nat → Nat) (cy : Nat → ClassId) (sh : pSH) (N nL : Nat) (A : Nat → Prop) (x : pNX) : Prop := ∀ (H : Heap) (locs : List Loc) (lsA : Array Slot), lv_has lsA nL (pm_L lay x.2.1) → va_P D vwCl (pm_W lay cy sh N x.2.2.2) H → va_D A (pm_W lay cy sh N x.2.2.2) → va_S A s.heap H locs → W p l e R s m args below meth c H locs 0 0 Q (F0 m x.1 lsA (x.2.2.1.map (pm_v lay)))
theorem pi_iconst (hx : p.tables.exec = Jvm.exec) (hb : c.code = cc) {n : Int} (hd : decode cc pc = .ok (.iconst n, 1)) (h : pm_go (pc + 1) ls (.inl (Int32.ofInt n) :: st) σ = some (.inl x)) (K : pm_G p l e R s m args below meth c Q D lay cy sh N nL A x) : pm_G p l e R s m args below meth c Q D lay cy sh N nL A (pc, ls, st, σ) := by
  intro H locs lsA hl hP hD hS
  cases h
  exact lv_iconst hx hb hd rfl (K H locs lsA hl hP hD hS)
theorem pi_bipush (hx : p.tables.exec = Jvm.exec) (hb : c.code = cc) {n : Int} (hd : decode cc pc = .ok (.bipush n, 2)) (h : pm_go (pc + 2) ls (.inl (Int8.ofInt n).toInt32 :: st) σ = some (.inl x)) (K : pm_G p l e R s m args below meth c Q D lay cy sh N nL A x) : pm_G p l e R s m args below meth c Q D lay cy sh N nL A (pc, ls, st, σ) := by
  intro H locs lsA hl hP hD hS
  cases h
  exact lv_bipush hx hb hd rfl (K H locs lsA hl hP hD hS)
theorem pi_sipush (hx : p.tables.exec = Jvm.exec) (hb : c.code = cc) {n : Int} (hd : decode cc pc = .ok (.sipush n, 3)) (h : pm_go (pc + 3) ls (.inl (Int16.ofInt n).toInt32 :: st) σ = some (.inl x)) (K : pm_G p l e R s m args below meth c Q D lay cy sh N nL A x) : pm_G p l e R s m args below meth c Q D lay cy sh N nL A (pc, ls, st, σ) := by
  intro H locs lsA hl hP hD hS
  cases h
  exact lv_sipush hx hb hd rfl (K H locs lsA hl hP hD hS)
theorem pi_lconst (hx : p.tables.exec = Jvm.exec) (hb : c.code = cc) {n : Fin 2} (hd : decode cc pc = .ok (.lconst n, 1)) (h : pm_go (pc + 1) ls (.inr (.inl (Int64.ofNat (n : Nat))) :: st) σ = some (.inl x)) (K : pm_G p l e R s m args below meth c Q D lay cy sh N nL A x) : pm_G p l e R s m args below meth c Q D lay cy sh N nL A (pc, ls, st, σ) := by
  intro H locs lsA hl hP hD hS
  cases h
  exact lv_lconst hx hb hd rfl (K H locs lsA hl hP hD hS)
theorem pi_ldc (hx : p.tables.exec = Jvm.exec) (hb : c.code = cc) {k : Nat} {own : String} {v : Option (Int32 ⊕ Int64)} (hown : s.vm.findClass own = some m.cls) (hc : ∀ y, v = some (.inl y) → (Cond.constant own k y).before args s = true) (hd : decode cc pc = .ok (.ldc k, 2)) (h : pm_ldc v (pc + 2) ls st σ = some (.inl x)) (K : pm_G p l e R s m args below meth c Q D lay cy sh N nL A x) : pm_G p l e R s m args below meth c Q D lay cy sh N nL A (pc, ls, st, σ) := by
  intro H locs lsA hl hP hD hS
  unfold pm_ldc at h
  split at h
  · cases h
    exact lv_ldc hx hb hown (hc _ rfl) hd (K H locs lsA hl hP hD hS)
  · cases h
theorem pi_ldcw (hx : p.tables.exec = Jvm.exec) (hb : c.code = cc) {k : Nat} {own : String} {v : Option (Int32 ⊕ Int64)} (hown : s.vm.findClass own = some m.cls) (hc : ∀ y, v = some (.inl y) → (Cond.constant own k y).before args s = true) (hd : decode cc pc = .ok (.ldc_w k, 3)) (h : pm_ldc v (pc + 3) ls st σ = some (.inl x)) (K : pm_G p l e R s m args below meth c Q D lay cy sh N nL A x) : pm_G p l e R s m args below meth c Q D lay cy sh N nL A (pc, ls, st, σ) := by
  intro H locs lsA hl hP hD hS
  unfold pm_ldc at h
  split at h
  · cases h
    exact lv_ldcw hx hb hown (hc _ rfl) hd (K H locs lsA hl hP hD hS)
  · cases h
theorem pi_ldc2 (hx : p.tables.exec = Jvm.exec) (hb : c.code = cc) {k : Nat} {own : String} {v : Option (Int32 ⊕ Int64)} (hown : s.vm.findClass own = some m.cls) (hc : ∀ y, v = some (.inr y) → (Cond.constantLong own k y).before args s = true) (hd : decode cc pc = .ok (.ldc2_w k, 3)) (h : pm_ldc2 v (pc + 3) ls st σ = some (.inl x)) (K : pm_G p l e R s m args below meth c Q D lay cy sh N nL A x) : pm_G p l e R s m args below meth c Q D lay cy sh N nL A (pc, ls, st, σ) := by
  intro H locs lsA hl hP hD hS
  unfold pm_ldc2 at h
  split at h
  · cases h
    exact lv_ldc2 hx hb hown (hc _ rfl) hd (K H locs lsA hl hP hD hS)
  · cases h
theorem pi_iload_n (hx : p.tables.exec = Jvm.exec) (hb : c.code = cc) {k : Fin 4} (hd : decode cc pc = .ok (.iload_n k, 1)) (h : pm_ldi k (pc + 1) ls st σ = some (.inl x)) (K : pm_G p l e R s m args below meth c Q D lay cy sh N nL A x) : pm_G p l e R s m args below meth c Q D lay cy sh N nL A (pc, ls, st, σ) := by
  intro H locs lsA hl hP hD hS
  unfold pm_ldi at h
  split at h
  · rename_i y hq
    cases h
    exact lv_iload_n hx hb hd rfl (pm_get hl hq) (K H locs lsA hl hP hD hS)
  · cases h
theorem pi_iload (hx : p.tables.exec = Jvm.exec) (hb : c.code = cc) {k : Nat} (hd : decode cc pc = .ok (.iload k, 2)) (h : pm_ldi k (pc + 2) ls st σ = some (.inl x)) (K : pm_G p l e R s m args below meth c Q D lay cy sh N nL A x) : pm_G p l e R s m args below meth c Q D lay cy sh N nL A (pc, ls, st, σ) := by
  intro H locs lsA hl hP hD hS
  unfold pm_ldi at h
  split at h
  · rename_i y hq
    cases h
    exact lv_iload hx hb hd (pm_get hl hq) (K H locs lsA hl hP hD hS)
  · cases h
theorem pi_lload_n (hx : p.tables.exec = Jvm.exec) (hb : c.code = cc) {k : Fin 4} (hd : decode cc pc = .ok (.lload_n k, 1)) (h : pm_ldl k (pc + 1) ls st σ = some (.inl x)) (K : pm_G p l e R s m args below meth c Q D lay cy sh N nL A x) : pm_G p l e R s m args below meth c Q D lay cy sh N nL A (pc, ls, st, σ) := by
  intro H locs lsA hl hP hD hS
  unfold pm_ldl at h
  split at h
  · rename_i y hq
    cases h
    exact lv_lload_n hx hb hd rfl (pm_get hl hq) (K H locs lsA hl hP hD hS)
  · cases h
theorem pi_lload (hx : p.tables.exec = Jvm.exec) (hb : c.code = cc) {k : Nat} (hd : decode cc pc = .ok (.lload k, 2)) (h : pm_ldl k (pc + 2) ls st σ = some (.inl x)) (K : pm_G p l e R s m args below meth c Q D lay cy sh N nL A x) : pm_G p l e R s m args below meth c Q D lay cy sh N nL A (pc, ls, st, σ) := by
  intro H locs lsA hl hP hD hS
  unfold pm_ldl at h
  split at h
  · rename_i y hq
    cases h
    exact lv_lload hx hb hd (pm_get hl hq) (K H locs lsA hl hP hD hS)
  · cases h
theorem pi_aload_n (hx : p.tables.exec = Jvm.exec) (hb : c.code = cc) {k : Fin 4} (hd : decode cc pc = .ok (.aload_n k, 1)) (h : pm_lda k (pc + 1) ls st σ = some (.inl x)) (K : pm_G p l e R s m args below meth c Q D lay cy sh N nL A x) : pm_G p l e R s m args below meth c Q D lay cy sh N nL A (pc, ls, st, σ) := by
  intro H locs lsA hl hP hD hS
  unfold pm_lda at h
  split at h
  · rename_i y hq
    cases h
    exact lv_aload_n hx hb hd rfl (pm_get hl hq) (K H locs lsA hl hP hD hS)
  · cases h
theorem pi_aload (hx : p.tables.exec = Jvm.exec) (hb : c.code = cc) {k : Nat} (hd : decode cc pc = .ok (.aload k, 2)) (h : pm_lda k (pc + 2) ls st σ = some (.inl x)) (K : pm_G p l e R s m args below meth c Q D lay cy sh N nL A x) : pm_G p l e R s m args below meth c Q D lay cy sh N nL A (pc, ls, st, σ) := by
  intro H locs lsA hl hP hD hS
  unfold pm_lda at h
  split at h
  · rename_i y hq
    cases h
    exact lv_aload hx hb hd (pm_get hl hq) (K H locs lsA hl hP hD hS)
  · cases h
theorem pi_istore_n (hx : p.tables.exec = Jvm.exec) (hb : c.code = cc) {k : Fin 4} (hd : decode cc pc = .ok (.istore_n k, 1)) (h : pm_sti nL k (pc + 1) ls st σ = some (.inl x)) (K : pm_G p l e R s m args below meth c Q D lay cy sh N nL A x) : pm_G p l e R s m args below meth c Q D lay cy sh N nL A (pc, ls, st, σ) := by
  intro H locs lsA hl hP hD hS
  unfold pm_sti at h
  split at h
  · split at h
    · rename_i y r hk
      cases h
      exact lv_istore_n hx hb hd rfl hl hk (pm_s1_L (lay := lay) (ls := ls) (k := k) (v := .inl y)) (fun ls2 hl2 => K H locs ls2 hl2 hP hD hS)
    · cases h
  · cases h
theorem pi_istore (hx : p.tables.exec = Jvm.exec) (hb : c.code = cc) {k : Nat} (hd : decode cc pc = .ok (.istore k, 2)) (h : pm_sti nL k (pc + 2) ls st σ = some (.inl x)) (K : pm_G p l e R s m args below meth c Q D lay cy sh N nL A x) : pm_G p l e R s m args below meth c Q D lay cy sh N nL A (pc, ls, st, σ) := by
  intro H locs lsA hl hP hD hS
  unfold pm_sti at h
  split at h
  · split at h
    · rename_i y r hk
      cases h
      exact lv_istore hx hb hd hl hk (pm_s1_L (lay := lay) (ls := ls) (k := k) (v := .inl y)) (fun ls2 hl2 => K H locs ls2 hl2 hP hD hS)
    · cases h
  · cases h
theorem pi_astore_n (hx : p.tables.exec = Jvm.exec) (hb : c.code = cc) {k : Fin 4} (hd : decode cc pc = .ok (.astore_n k, 1)) (h : pm_sta nL k (pc + 1) ls st σ = some (.inl x)) (K : pm_G p l e R s m args below meth c Q D lay cy sh N nL A x) : pm_G p l e R s m args below meth c Q D lay cy sh N nL A (pc, ls, st, σ) := by
  intro H locs lsA hl hP hD hS
  unfold pm_sta at h
  split at h
  · split at h
    · rename_i y r hk
      cases h
      exact lv_astore_n hx hb hd rfl hl hk (pm_s1_L (lay := lay) (ls := ls) (k := k) (v := .inr (.inr y))) (fun ls2 hl2 => K H locs ls2 hl2 hP hD hS)
    · cases h
  · cases h
theorem pi_astore (hx : p.tables.exec = Jvm.exec) (hb : c.code = cc) {k : Nat} (hd : decode cc pc = .ok (.astore k, 2)) (h : pm_sta nL k (pc + 2) ls st σ = some (.inl x)) (K : pm_G p l e R s m args below meth c Q D lay cy sh N nL A x) : pm_G p l e R s m args below meth c Q D lay cy sh N nL A (pc, ls, st, σ) := by
  intro H locs lsA hl hP hD hS
  unfold pm_sta at h
  split at h
  · split at h
    · rename_i y r hk
      cases h
      exact lv_astore hx hb hd hl hk (pm_s1_L (lay := lay) (ls := ls) (k := k) (v := .inr (.inr y))) (fun ls2 hl2 => K H locs ls2 hl2 hP hD hS)
    · cases h
  · cases h
theorem pi_lstore (hx : p.tables.exec = Jvm.exec) (hb : c.code = cc) {k : Nat} (hd : decode cc pc = .ok (.lstore k, 2)) (h : pm_stl nL k (pc + 2) ls st σ = some (.inl x)) (K : pm_G p l e R s m args below meth c Q D lay cy sh N nL A x) : pm_G p l e R s m args below meth c Q D lay cy sh N nL A (pc, ls, st, σ) := by
  intro H locs lsA hl hP hD hS
  unfold pm_stl at h
  split at h
  · split at h
    · rename_i y r hk
      cases h
      exact lv_lstore hx hb hd hl hk (pm_s2_L (lay := lay) (ls := ls) (k := k) (v := .inr (.inl y))) (fun ls2 hl2 => K H locs ls2 hl2 hP hD hS)
    · cases h
  · cases h
theorem pi_iinc (hx : p.tables.exec = Jvm.exec) (hb : c.code = cc) {k : Nat} {n : Int} (hd : decode cc pc = .ok (.iinc k n, 3)) (h : pm_inc nL k n (pc + 3) ls st σ = some (.inl x)) (K : pm_G p l e R s m args below meth c Q D lay cy sh N nL A x) : pm_G p l e R s m args below meth c Q D lay cy sh N nL A (pc, ls, st, σ) := by
  intro H locs lsA hl hP hD hS
  unfold pm_inc at h
  split at h
  · rename_i y hq
    split at h
    · rename_i hk
      cases h
      obtain ⟨j, hj⟩ := List.getElem?_of_mem (List.mem_map.mpr ⟨(k, .inl y), pm_lk_mem hq, rfl⟩ : (k, pm_v lay (.inl y)) ∈ pm_L lay ls)
      exact lv_iinc hx hb hd hl hj rfl hk (pm_s1_L (lay := lay) (v := .inl (y + Int32.ofInt n))) (fun ls2 hl2 => K H locs ls2 hl2 hP hD hS)
    · cases h
  · cases h
theorem pi_iadd (hx : p.tables.exec = Jvm.exec) (hb : c.code = cc) (hd : decode cc pc = .ok (.iadd, 1)) (h : pm_ii (fun x y => x + y) (pc + 1) ls st σ = some (.inl x)) (K : pm_G p l e R s m args below meth c Q D lay cy sh N nL A x) : pm_G p l e R s m args below meth c Q D lay cy sh N nL A (pc, ls, st, σ) := by
  intro H locs lsA hl hP hD hS
  unfold pm_ii at h
  split at h
  · cases h
    exact lv_iadd hx hb hd (K H locs lsA hl hP hD hS)
  · cases h
theorem pi_isub (hx : p.tables.exec = Jvm.exec) (hb : c.code = cc) (hd : decode cc pc = .ok (.isub, 1)) (h : pm_ii (fun x y => x - y) (pc + 1) ls st σ = some (.inl x)) (K : pm_G p l e R s m args below meth c Q D lay cy sh N nL A x) : pm_G p l e R s m args below meth c Q D lay cy sh N nL A (pc, ls, st, σ) := by
  intro H locs lsA hl hP hD hS
  unfold pm_ii at h
  split at h
  · cases h
    exact lv_isub hx hb hd (K H locs lsA hl hP hD hS)
  · cases h
theorem pi_imul (hx : p.tables.exec = Jvm.exec) (hb : c.code = cc) (hd : decode cc pc = .ok (.imul, 1)) (h : pm_ii (fun x y => x * y) (pc + 1) ls st σ = some (.inl x)) (K : pm_G p l e R s m args below meth c Q D lay cy sh N nL A x) : pm_G p l e R s m args below meth c Q D lay cy sh N nL A (pc, ls, st, σ) := by
  intro H locs lsA hl hP hD hS
  unfold pm_ii at h
  split at h
  · cases h
    exact lv_imul hx hb hd (K H locs lsA hl hP hD hS)
  · cases h
theorem pi_iand (hx : p.tables.exec = Jvm.exec) (hb : c.code = cc) (hd : decode cc pc = .ok (.iand, 1)) (h : pm_ii (fun x y => x &&& y) (pc + 1) ls st σ = some (.inl x)) (K : pm_G p l e R s m args below meth c Q D lay cy sh N nL A x) : pm_G p l e R s m args below meth c Q D lay cy sh N nL A (pc, ls, st, σ) := by
  intro H locs lsA hl hP hD hS
  unfold pm_ii at h
  split at h
  · cases h
    exact lv_iand hx hb hd (K H locs lsA hl hP hD hS)
  · cases h
theorem pi_ior (hx : p.tables.exec = Jvm.exec) (hb : c.code = cc) (hd : decode cc pc = .ok (.ior, 1)) (h : pm_ii (fun x y => x ||| y) (pc + 1) ls st σ = some (.inl x)) (K : pm_G p l e R s m args below meth c Q D lay cy sh N nL A x) : pm_G p l e R s m args below meth c Q D lay cy sh N nL A (pc, ls, st, σ) := by
  intro H locs lsA hl hP hD hS
  unfold pm_ii at h
  split at h
  · cases h
    exact lv_ior hx hb hd (K H locs lsA hl hP hD hS)
  · cases h
theorem pi_ishl (hx : p.tables.exec = Jvm.exec) (hb : c.code = cc) (hd : decode cc pc = .ok (.ishl, 1)) (h : pm_ii (fun x y => x <<< (y &&& 31)) (pc + 1) ls st σ = some (.inl x)) (K : pm_G p l e R s m args below meth c Q D lay cy sh N nL A x) : pm_G p l e R s m args below meth c Q D lay cy sh N nL A (pc, ls, st, σ) := by
  intro H locs lsA hl hP hD hS
  unfold pm_ii at h
  split at h
  · cases h
    exact lv_ishl hx hb hd (K H locs lsA hl hP hD hS)
  · cases h
theorem pi_iushr (hx : p.tables.exec = Jvm.exec) (hb : c.code = cc) (hd : decode cc pc = .ok (.iushr, 1)) (h : pm_ii (fun x y => (x.toUInt32 >>> (y.toUInt32 &&& Int32.toUInt32 31)).toInt32) (pc + 1) ls st σ = some (.inl x)) (K : pm_G p l e R s m args below meth c Q D lay cy sh N nL A x) : pm_G p l e R s m args below meth c Q D lay cy sh N nL A (pc, ls, st, σ) := by
  intro H locs lsA hl hP hD hS
  unfold pm_ii at h
  split at h
  · cases h
    exact lv_iushr hx hb hd rfl (K H locs lsA hl hP hD hS)
  · cases h
theorem pi_ladd (hx : p.tables.exec = Jvm.exec) (hb : c.code = cc) (hd : decode cc pc = .ok (.ladd, 1)) (h : pm_ll (fun x y => x + y) (pc + 1) ls st σ = some (.inl x)) (K : pm_G p l e R s m args below meth c Q D lay cy sh N nL A x) : pm_G p l e R s m args below meth c Q D lay cy sh N nL A (pc, ls, st, σ) := by
  intro H locs lsA hl hP hD hS
  unfold pm_ll at h
  split at h
  · cases h
    exact lv_ladd hx hb hd (K H locs lsA hl hP hD hS)
  · cases h
theorem pi_lsub (hx : p.tables.exec = Jvm.exec) (hb : c.code = cc) (hd : decode cc pc = .ok (.lsub, 1)) (h : pm_ll (fun x y => x - y) (pc + 1) ls st σ = some (.inl x)) (K : pm_G p l e R s m args below meth c Q D lay cy sh N nL A x) : pm_G p l e R s m args below meth c Q D lay cy sh N nL A (pc, ls, st, σ) := by
  intro H locs lsA hl hP hD hS
  unfold pm_ll at h
  split at h
  · cases h
    exact lv_lsub hx hb hd (K H locs lsA hl hP hD hS)
  · cases h
theorem pi_lmul (hx : p.tables.exec = Jvm.exec) (hb : c.code = cc) (hd : decode cc pc = .ok (.lmul, 1)) (h : pm_ll (fun x y => x * y) (pc + 1) ls st σ = some (.inl x)) (K : pm_G p l e R s m args below meth c Q D lay cy sh N nL A x) : pm_G p l e R s m args below meth c Q D lay cy sh N nL A (pc, ls, st, σ) := by
  intro H locs lsA hl hP hD hS
  unfold pm_ll at h
  split at h
  · cases h
    exact lv_lmul hx hb hd (K H locs lsA hl hP hD hS)
  · cases h
theorem pi_land (hx : p.tables.exec = Jvm.exec) (hb : c.code = cc) (hd : decode cc pc = .ok (.land, 1)) (h : pm_ll (fun x y => x &&& y) (pc + 1) ls st σ = some (.inl x)) (K : pm_G p l e R s m args below meth c Q D lay cy sh N nL A x) : pm_G p l e R s m args below meth c Q D lay cy sh N nL A (pc, ls, st, σ) := by
  intro H locs lsA hl hP hD hS
  unfold pm_ll at h
  split at h
  · cases h
    exact lv_land hx hb hd (K H locs lsA hl hP hD hS)
  · cases h
theorem pi_lor (hx : p.tables.exec = Jvm.exec) (hb : c.code = cc) (hd : decode cc pc = .ok (.lor, 1)) (h : pm_ll (fun x y => x ||| y) (pc + 1) ls st σ = some (.inl x)) (K : pm_G p l e R s m args below meth c Q D lay cy sh N nL A x) : pm_G p l e R s m args below meth c Q D lay cy sh N nL A (pc, ls, st, σ) := by
  intro H locs lsA hl hP hD hS
  unfold pm_ll at h
  split at h
  · cases h
    exact lv_lor hx hb hd (K H locs lsA hl hP hD hS)
  · cases h
theorem pi_irem (hx : p.tables.exec = Jvm.exec) (hb : c.code = cc) (hd : decode cc pc = .ok (.irem, 1)) (h : pm_irem (pc + 1) ls st σ = some (.inl x)) (K : pm_G p l e R s m args below meth c Q D lay cy sh N nL A x) : pm_G p l e R s m args below meth c Q D lay cy sh N nL A (pc, ls, st, σ) := by
  intro H locs lsA hl hP hD hS
  unfold pm_irem at h
  split at h
  · split at h
    · cases h
    · rename_i hne
      cases h
      exact lv_irem hx hb hd hne (K H locs lsA hl hP hD hS)
  · cases h
theorem pi_lrem (hx : p.tables.exec = Jvm.exec) (hb : c.code = cc) (hd : decode cc pc = .ok (.lrem, 1)) (h : pm_lrem (pc + 1) ls st σ = some (.inl x)) (K : pm_G p l e R s m args below meth c Q D lay cy sh N nL A x) : pm_G p l e R s m args below meth c Q D lay cy sh N nL A (pc, ls, st, σ) := by
  intro H locs lsA hl hP hD hS
  unfold pm_lrem at h
  split at h
  · split at h
    · cases h
    · rename_i hne
      cases h
      exact lv_lrem hx hb hd hne (K H locs lsA hl hP hD hS)
  · cases h
theorem pi_lcmp (hx : p.tables.exec = Jvm.exec) (hb : c.code = cc) (hd : decode cc pc = .ok (.lcmp, 1)) (h : pm_lcmp (pc + 1) ls st σ = some (.inl x)) (K : pm_G p l e R s m args below meth c Q D lay cy sh N nL A x) : pm_G p l e R s m args below meth c Q D lay cy sh N nL A (pc, ls, st, σ) := by
  intro H locs lsA hl hP hD hS
  unfold pm_lcmp at h
  split at h
  · cases h
    exact W.lcmp hx hb hd (K H locs lsA hl hP hD hS)
  · cases h
theorem pi_lshl (hx : p.tables.exec = Jvm.exec) (hb : c.code = cc) (hd : decode cc pc = .ok (.lshl, 1)) (h : pm_lsh (pc + 1) ls st σ = some (.inl x)) (K : pm_G p l e R s m args below meth c Q D lay cy sh N nL A x) : pm_G p l e R s m args below meth c Q D lay cy sh N nL A (pc, ls, st, σ) := by
  intro H locs lsA hl hP hD hS
  unfold pm_lsh at h
  split at h
  · cases h
    exact lv_lshl hx hb hd rfl (K H locs lsA hl hP hD hS)
  · cases h
theorem pi_i2l (hx : p.tables.exec = Jvm.exec) (hb : c.code = cc) (hd : decode cc pc = .ok (.i2l, 1)) (h : pm_i2l (pc + 1) ls st σ = some (.inl x)) (K : pm_G p l e R s m args below meth c Q D lay cy sh N nL A x) : pm_G p l e R s m args below meth c Q D lay cy sh N nL A (pc, ls, st, σ) := by
  intro H locs lsA hl hP hD hS
  unfold pm_i2l at h
  split at h
  · cases h
    exact lv_i2l hx hb hd rfl (K H locs lsA hl hP hD hS)
  · cases h
theorem pi_l2i (hx : p.tables.exec = Jvm.exec) (hb : c.code = cc) (hd : decode cc pc = .ok (.l2i, 1)) (h : pm_l2i (pc + 1) ls st σ = some (.inl x)) (K : pm_G p l e R s m args below meth c Q D lay cy sh N nL A x) : pm_G p l e R s m args below meth c Q D lay cy sh N nL A (pc, ls, st, σ) := by
  intro H locs lsA hl hP hD hS
  unfold pm_l2i at h
  split at h
  · cases h
    exact lv_l2i hx hb hd rfl (K H locs lsA hl hP hD hS)
  · cases h
theorem pi_dup (hx : p.tables.exec = Jvm.exec) (hb : c.code = cc) (hd : decode cc pc = .ok (.dup, 1)) (h : pm_dup (pc + 1) ls st σ = some (.inl x)) (K : pm_G p l e R s m args below meth c Q D lay cy sh N nL A x) : pm_G p l e R s m args below meth c Q D lay cy sh N nL A (pc, ls, st, σ) := by
  intro H locs lsA hl hP hD hS
  unfold pm_dup at h
  split at h
  · split at h
    · rename_i v r hw
      cases h
      exact lv_dup hx hb hd ((pm_cat lay v).trans hw) (K H locs lsA hl hP hD hS)
    · cases h
  · cases h
theorem pi_pop (hx : p.tables.exec = Jvm.exec) (hb : c.code = cc) (hd : decode cc pc = .ok (.pop, 1)) (h : pm_pop (pc + 1) ls st σ = some (.inl x)) (K : pm_G p l e R s m args below meth c Q D lay cy sh N nL A x) : pm_G p l e R s m args below meth c Q D lay cy sh N nL A (pc, ls, st, σ) := by
  intro H locs lsA hl hP hD hS
  unfold pm_pop at h
  split at h
  · split at h
    · rename_i v r hw
      cases h
      exact lv_pop hx hb hd ((pm_cat lay v).trans hw) (K H locs lsA hl hP hD hS)
    · cases h
  · cases h
theorem pi_dup2 (hx : p.tables.exec = Jvm.exec) (hb : c.code = cc) (hd : decode cc pc = .ok (.dup2, 1)) (h : pm_dup2 (pc + 1) ls st σ = some (.inl x)) (K : pm_G p l e R s m args below meth c Q D lay cy sh N nL A x) : pm_G p l e R s m args below meth c Q D lay cy sh N nL A (pc, ls, st, σ) := by
  intro H locs lsA hl hP hD hS
  unfold pm_dup2 at h
  split at h
  · split at h
    · rename_i v u r hw
      cases h
      exact lv_dup2_11 hx hb hd ((pm_cat lay v).trans hw.1) ((pm_cat lay u).trans hw.2) (K H locs lsA hl hP hD hS)
    · cases h
  · cases h
theorem pm_jt {pc : Nat} {off : Int} (h : 0 ≤ (pc : Int) + off) : (pc : Int) + off = ((((pc : Int) + off).toNat : Nat) : Int) := (Int.toNat_of_nonneg h).symm
theorem pi_goto (hx : p.tables.exec = Jvm.exec) (hb : c.code = cc) {off : Int} (hd : decode cc pc = .ok (.goto off, 3)) (h : pm_j pc off ls st σ = some (.inl x)) (K : pm_G p l e R s m args below meth c Q D lay cy sh N nL A x) : pm_G p l e R s m args below meth c Q D lay cy sh N nL A (pc, ls, st, σ) := by
  intro H locs lsA hl hP hD hS
  unfold pm_j at h
  split at h
  · rename_i hj
    cases h
    exact lv_goto hx hb hd (pm_jt hj) (K H locs lsA hl hP hD hS)
  · cases h
theorem pi_if_eq (hx : p.tables.exec = Jvm.exec) (hb : c.code = cc) {off : Int} (HT : (pc : Int) + off = ((((pc : Int) + off).toNat : Nat) : Int)) (hd : decode cc pc = .ok (.ifCond .eq off, 3)) (h : pm_if (fun x => decide (x = 0)) off pc ls st σ = some (.inl x)) (K : pm_G p l e R s m args below meth c Q D lay cy sh N nL A x) : pm_G p l e R s m args below meth c Q D lay cy sh N nL A (pc, ls, st, σ) := by
  intro H locs lsA hl hP hD hS
  unfold pm_if at h
  split at h
  · rename_i y r
    split at h
    · rename_i hc
      have hc := of_decide_eq_true hc
      unfold pm_j at h
      split at h
      · rename_i hj
        cases h
        exact lv_if_eq hx hb hd (pm_jt hj) (fun _ => K H locs lsA hl hP hD hS) (fun q => absurd hc q)
      · cases h
    · rename_i hc
      have hc : ¬ (y = 0) := fun q => hc (decide_eq_true q)
      cases h
      exact lv_if_eq hx hb hd (tgt := ((pc : Int) + off).toNat) HT (fun q => absurd q hc) (fun _ => K H locs lsA hl hP hD hS)
  · cases h
theorem pi_if_ne (hx : p.tables.exec = Jvm.exec) (hb : c.code = cc) {off : Int} (HT : (pc : Int) + off = ((((pc : Int) + off).toNat : Nat) : Int)) (hd : decode cc pc = .ok (.ifCond .ne off, 3)) (h : pm_if (fun x => decide (¬ x = 0)) off pc ls st σ = some (.inl x)) (K : pm_G p l e R s m args below meth c Q D lay cy sh N nL A x) : pm_G p l e R s m args below meth c Q D lay cy sh N nL A (pc, ls, st, σ) := by
  intro H locs lsA hl hP hD hS
  unfold pm_if at h
  split at h
  · rename_i y r
    split at h
    · rename_i hc
      have hc := of_decide_eq_true hc
      unfold pm_j at h
      split at h
      · rename_i hj
        cases h
        exact lv_if_ne hx hb hd (pm_jt hj) (fun _ => K H locs lsA hl hP hD hS) (fun q => absurd q hc)
      · cases h
    · rename_i hc
      have hc : ¬ (¬ y = 0) := fun q => hc (decide_eq_true q)
      cases h
      exact lv_if_ne hx hb hd (tgt := ((pc : Int) + off).toNat) HT (fun q => absurd q hc) (fun _ => K H locs lsA hl hP hD hS)
  · cases h
theorem pi_if_lt (hx : p.tables.exec = Jvm.exec) (hb : c.code = cc) {off : Int} (HT : (pc : Int) + off = ((((pc : Int) + off).toNat : Nat) : Int)) (hd : decode cc pc = .ok (.ifCond .lt off, 3)) (h : pm_if (fun x => decide (x < 0)) off pc ls st σ = some (.inl x)) (K : pm_G p l e R s m args below meth c Q D lay cy sh N nL A x) : pm_G p l e R s m args below meth c Q D lay cy sh N nL A (pc, ls, st, σ) := by
  intro H locs lsA hl hP hD hS
  unfold pm_if at h
  split at h
  · rename_i y r
    split at h
    · rename_i hc
      have hc := of_decide_eq_true hc
      unfold pm_j at h
      split at h
      · rename_i hj
        cases h
        exact lv_if_lt hx hb hd (pm_jt hj) (fun _ => K H locs lsA hl hP hD hS) (fun q => absurd hc q)
      · cases h
    · rename_i hc
      have hc : ¬ (y < 0) := fun q => hc (decide_eq_true q)
      cases h
      exact lv_if_lt hx hb hd (tgt := ((pc : Int) + off).toNat) HT (fun q => absurd q hc) (fun _ => K H locs lsA hl hP hD hS)
  · cases h
theorem pi_if_ge (hx : p.tables.exec = Jvm.exec) (hb : c.code = cc) {off : Int} (HT : (pc : Int) + off = ((((pc : Int) + off).toNat : Nat) : Int)) (hd : decode cc pc = .ok (.ifCond .ge off, 3)) (h : pm_if (fun x => decide (0 ≤ x)) off pc ls st σ = some (.inl x)) (K : pm_G p l e R s m args below meth c Q D lay cy sh N nL A x) : pm_G p l e R s m args below meth c Q D lay cy sh N nL A (pc, ls, st, σ) := by
  intro H locs lsA hl hP hD hS
  unfold pm_if at h
  split at h
  · rename_i y r
    split at h
    · rename_i hc
      have hc := of_decide_eq_true hc
      unfold pm_j at h
      split at h
      · rename_i hj
        cases h
        exact lv_if_ge hx hb hd (pm_jt hj) (fun _ => K H locs lsA hl hP hD hS) (fun q => absurd hc q)
      · cases h
    · rename_i hc
      have hc : ¬ (0 ≤ y) := fun q => hc (decide_eq_true q)
      cases h
      exact lv_if_ge hx hb hd (tgt := ((pc : Int) + off).toNat) HT (fun q => absurd q hc) (fun _ => K H locs lsA hl hP hD hS)
  · cases h
theorem pi_if_gt (hx : p.tables.exec = Jvm.exec) (hb : c.code = cc) {off : Int} (HT : (pc : Int) + off = ((((pc : Int) + off).toNat : Nat) : Int)) (hd : decode cc pc = .ok (.ifCond .gt off, 3)) (h : pm_if (fun x => decide (0 < x)) off pc ls st σ = some (.inl x)) (K : pm_G p l e R s m args below meth c Q D lay cy sh N nL A x) : pm_G p l e R s m args below meth c Q D lay cy sh N nL A (pc, ls, st, σ) := by
  intro H locs lsA hl hP hD hS
  unfold pm_if at h
  split at h
  · rename_i y r
    split at h
    · rename_i hc
      have hc := of_decide_eq_true hc
      unfold pm_j at h
      split at h
      · rename_i hj
        cases h
        exact lv_if_gt hx hb hd (pm_jt hj) (fun _ => K H locs lsA hl hP hD hS) (fun q => absurd hc q)
      · cases h
    · rename_i hc
      have hc : ¬ (0 < y) := fun q => hc (decide_eq_true q)
      cases h
      exact lv_if_gt hx hb hd (tgt := ((pc : Int) + off).toNat) HT (fun q => absurd q hc) (fun _ => K H locs lsA hl hP hD hS)
  · cases h
theorem pi_if_le (hx : p.tables.exec = Jvm.exec) (hb : c.code = cc) {off : Int} (HT : (pc : Int) + off = ((((pc : Int) + off).toNat : Nat) : Int)) (hd : decode cc pc = .ok (.ifCond .le off, 3)) (h : pm_if (fun x => decide (x ≤ 0)) off pc ls st σ = some (.inl x)) (K : pm_G p l e R s m args below meth c Q D lay cy sh N nL A x) : pm_G p l e R s m args below meth c Q D lay cy sh N nL A (pc, ls, st, σ) := by
  intro H locs lsA hl hP hD hS
  unfold pm_if at h
  split at h
  · rename_i y r
    split at h
    · rename_i hc
      have hc := of_decide_eq_true hc
      unfold pm_j at h
      split at h
      · rename_i hj
        cases h
        exact lv_if_le hx hb hd (pm_jt hj) (fun _ => K H locs lsA hl hP hD hS) (fun q => absurd hc q)
      · cases h
    · rename_i hc
      have hc : ¬ (y ≤ 0) := fun q => hc (decide_eq_true q)
      cases h
      exact lv_if_le hx hb hd (tgt := ((pc : Int) + off).toNat) HT (fun q => absurd q hc) (fun _ => K H locs lsA hl hP hD hS)
  · cases h
theorem pi_ic_eq (hx : p.tables.exec = Jvm.exec) (hb : c.code = cc) {off : Int} (HT : (pc : Int) + off = ((((pc : Int) + off).toNat : Nat) : Int)) (hd : decode cc pc = .ok (.if_icmp .eq off, 3)) (h : pm_ic (fun x y => decide (x = y)) off pc ls st σ = some (.inl x)) (K : pm_G p l e R s m args below meth c Q D lay cy sh N nL A x) : pm_G p l e R s m args below meth c Q D lay cy sh N nL A (pc, ls, st, σ) := by
  intro H locs lsA hl hP hD hS
  unfold pm_ic at h
  split at h
  · rename_i b a r
    split at h
    · rename_i hc
      have hc := of_decide_eq_true hc
      unfold pm_j at h
      split at h
      · rename_i hj
        cases h
        exact lv_icmp_eq hx hb hd (pm_jt hj) (fun _ => K H locs lsA hl hP hD hS) (fun q => absurd hc q)
      · cases h
    · rename_i hc
      have hc : ¬ (a = b) := fun q => hc (decide_eq_true q)
      cases h
      exact lv_icmp_eq hx hb hd (tgt := ((pc : Int) + off).toNat) HT (fun q => absurd q hc) (fun _ => K H locs lsA hl hP hD hS)
  · cases h
theorem pi_ic_ne (hx : p.tables.exec = Jvm.exec) (hb : c.code = cc) {off : Int} (HT : (pc : Int) + off = ((((pc : Int) + off).toNat : Nat) : Int)) (hd : decode cc pc = .ok (.if_icmp .ne off, 3)) (h : pm_ic (fun x y => decide (¬ x = y)) off pc ls st σ = some (.inl x)) (K : pm_G p l e R s m args below meth c Q D lay cy sh N nL A x) : pm_G p l e R s m args below meth c Q D lay cy sh N nL A (pc, ls, st, σ) := by
  intro H locs lsA hl hP hD hS
  unfold pm_ic at h
  split at h
  · rename_i b a r
    split at h
    · rename_i hc
      have hc := of_decide_eq_true hc
      unfold pm_j at h
      split at h
      · rename_i hj
        cases h
        exact lv_icmp_ne hx hb hd (pm_jt hj) (fun _ => K H locs lsA hl hP hD hS) (fun q => absurd q hc)
      · cases h
    · rename_i hc
      have hc : ¬ (¬ a = b) := fun q => hc (decide_eq_true q)
      cases h
      exact lv_icmp_ne hx hb hd (tgt := ((pc : Int) + off).toNat) HT (fun q => absurd q hc) (fun _ => K H locs lsA hl hP hD hS)
  · cases h
theorem pi_ic_lt (hx : p.tables.exec = Jvm.exec) (hb : c.code = cc) {off : Int} (HT : (pc : Int) + off = ((((pc : Int) + off).toNat : Nat) : Int)) (hd : decode cc pc = .ok (.if_icmp .lt off, 3)) (h : pm_ic (fun x y => decide (x < y)) off pc ls st σ = some (.inl x)) (K : pm_G p l e R s m args below meth c Q D lay cy sh N nL A x) : pm_G p l e R s m args below meth c Q D lay cy sh N nL A (pc, ls, st, σ) := by
  intro H locs lsA hl hP hD hS
  unfold pm_ic at h
  split at h
  · rename_i b a r
    split at h
    · rename_i hc
      have hc := of_decide_eq_true hc
      unfold pm_j at h
      split at h
      · rename_i hj
        cases h
        exact lv_icmp_lt hx hb hd (pm_jt hj) (fun _ => K H locs lsA hl hP hD hS) (fun q => absurd hc q)
      · cases h
    · rename_i hc
      have hc : ¬ (a < b) := fun q => hc (decide_eq_true q)
      cases h
      exact lv_icmp_lt hx hb hd (tgt := ((pc : Int) + off).toNat) HT (fun q => absurd q hc) (fun _ => K H locs lsA hl hP hD hS)
  · cases h
theorem pi_ic_ge (hx : p.tables.exec = Jvm.exec) (hb : c.code = cc) {off : Int} (HT : (pc : Int) + off = ((((pc : Int) + off).toNat : Nat) : Int)) (hd : decode cc pc = .ok (.if_icmp .ge off, 3)) (h : pm_ic (fun x y => decide (y ≤ x)) off pc ls st σ = some (.inl x)) (K : pm_G p l e R s m args below meth c Q D lay cy sh N nL A x) : pm_G p l e R s m args below meth c Q D lay cy sh N nL A (pc, ls, st, σ) := by
  intro H locs lsA hl hP hD hS
  unfold pm_ic at h
  split at h
  · rename_i b a r
    split at h
    · rename_i hc
      have hc := of_decide_eq_true hc
      unfold pm_j at h
      split at h
      · rename_i hj
        cases h
        exact lv_icmp_ge hx hb hd (pm_jt hj) (fun _ => K H locs lsA hl hP hD hS) (fun q => absurd hc q)
      · cases h
    · rename_i hc
      have hc : ¬ (b ≤ a) := fun q => hc (decide_eq_true q)
      cases h
      exact lv_icmp_ge hx hb hd (tgt := ((pc : Int) + off).toNat) HT (fun q => absurd q hc) (fun _ => K H locs lsA hl hP hD hS)
  · cases h
theorem pi_ic_gt (hx : p.tables.exec = Jvm.exec) (hb : c.code = cc) {off : Int} (HT : (pc : Int) + off = ((((pc : Int) + off).toNat : Nat) : Int)) (hd : decode cc pc = .ok (.if_icmp .gt off, 3)) (h : pm_ic (fun x y => decide (y < x)) off pc ls st σ = some (.inl x)) (K : pm_G p l e R s m args below meth c Q D lay cy sh N nL A x) : pm_G p l e R s m args below meth c Q D lay cy sh N nL A (pc, ls, st, σ) := by
  intro H locs lsA hl hP hD hS
  unfold pm_ic at h
  split at h
  · rename_i b a r
    split at h
    · rename_i hc
      have hc := of_decide_eq_true hc
      unfold pm_j at h
      split at h
      · rename_i hj
        cases h
        exact lv_icmp_gt hx hb hd (pm_jt hj) (fun _ => K H locs lsA hl hP hD hS) (fun q => absurd hc q)
      · cases h
    · rename_i hc
      have hc : ¬ (b < a) := fun q => hc (decide_eq_true q)
      cases h
      exact lv_icmp_gt hx hb hd (tgt := ((pc : Int) + off).toNat) HT (fun q => absurd q hc) (fun _ => K H locs lsA hl hP hD hS)
  · cases h
theorem pi_ic_le (hx : p.tables.exec = Jvm.exec) (hb : c.code = cc) {off : Int} (HT : (pc : Int) + off = ((((pc : Int) + off).toNat : Nat) : Int)) (hd : decode cc pc = .ok (.if_icmp .le off, 3)) (h : pm_ic (fun x y => decide (x ≤ y)) off pc ls st σ = some (.inl x)) (K : pm_G p l e R s m args below meth c Q D lay cy sh N nL A x) : pm_G p l e R s m args below meth c Q D lay cy sh N nL A (pc, ls, st, σ) := by
  intro H locs lsA hl hP hD hS
  unfold pm_ic at h
  split at h
  · rename_i b a r
    split at h
    · rename_i hc
      have hc := of_decide_eq_true hc
      unfold pm_j at h
      split at h
      · rename_i hj
        cases h
        exact lv_icmp_le hx hb hd (pm_jt hj) (fun _ => K H locs lsA hl hP hD hS) (fun q => absurd hc q)
      · cases h
    · rename_i hc
      have hc : ¬ (a ≤ b) := fun q => hc (decide_eq_true q)
      cases h
      exact lv_icmp_le hx hb hd (tgt := ((pc : Int) + off).toNat) HT (fun q => absurd q hc) (fun _ => K H locs lsA hl hP hD hS)
  · cases h
theorem pi_tsw (hx : p.tables.exec = Jvm.exec) (hb : c.code = cc) {dflt lo hi : Int} {offs : Array Int} {len : Nat} (hd : decode cc pc = .ok (.tableswitch dflt lo hi offs, len)) (h : pm_tsw dflt lo hi offs pc ls st σ = some (.inl x)) (K : pm_G p l e R s m args below meth c Q D lay cy sh N nL A x) : pm_G p l e R s m args below meth c Q D lay cy sh N nL A (pc, ls, st, σ) := by
  intro H locs lsA hl hP hD hS
  unfold pm_tsw at h
  split at h
  · rename_i y r
    split at h
    · rename_i hc
      unfold pm_j at h
      split at h
      · rename_i hj
        cases h
        exact lv_tableOut hx hb hd hc (pm_jt hj) (K H locs lsA hl hP hD hS)
      · cases h
    · rename_i hc
      split at h
      · rename_i off ho
        unfold pm_j at h
        split at h
        · rename_i hj
          cases h
          exact lv_tableIn hx hb hd (fun q => hc (Or.inl q)) (fun q => hc (Or.inr q)) ho (pm_jt hj) (K H locs lsA hl hP hD hS)
        · cases h
      · cases h
  · cases h
theorem pi_lsw (hx : p.tables.exec = Jvm.exec) (hb : c.code = cc) {dflt : Int} {ps : Array (Int × Int)} {len : Nat} (hd : decode cc pc = .ok (.lookupswitch dflt ps, len)) (h : pm_lsw dflt ps pc ls st σ = some (.inl x)) (K : pm_G p l e R s m args below meth c Q D lay cy sh N nL A x) : pm_G p l e R s m args below meth c Q D lay cy sh N nL A (pc, ls, st, σ) := by
  intro H locs lsA hl hP hD hS
  unfold pm_lsw at h
  split at h
  · rename_i y r
    split at h
    · rename_i hp
      unfold pm_j at h
      split at h
      · rename_i hj
        cases h
        exact lv_lookup hx hb hd hp rfl (pm_jt hj) (K H locs lsA hl hP hD hS)
      · cases h
    · cases h
  · cases h
end PMI
