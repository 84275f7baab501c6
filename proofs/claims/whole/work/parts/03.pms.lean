/-! ===== the pure machine is sound: its runs are the machine's ===== -/
theorem pm_W_get {lay : Nat → Nat} {cy : Nat → ClassId} {sh : pSH} {N : Nat} {σ : pST} {i : Nat} (h : i < N) : (pm_W lay cy sh N σ)[i]? = some (lay i, pm_E lay cy sh σ i) := by
  simp [pm_W, List.getElem?_map, List.getElem?_range h]
theorem pm_W_len {lay : Nat → Nat} {cy : Nat → ClassId} {sh : pSH} {N : Nat} {σ : pST} : (pm_W lay cy sh N σ).length = N := by simp [pm_W]
theorem pm_fs_congr {lay : Nat → Nat} {σ σ' : pST} {i : Nat} (h1 : σ'.1 i = σ.1 i) (h2 : σ'.2 i = σ.2 i) : ∀ (l : List Nat) (k : Nat), pm_fs lay σ' i k l = pm_fs lay σ i k l
  | [], _ => rfl
  | q :: l, k => by
    simp only [pm_fs]
    rw [pm_fs_congr h1 h2 l (k + 1)]
    congr 1
    unfold pm_fv
    rw [h1, h2]
theorem pm_E_congr {lay : Nat → Nat} {cy : Nat → ClassId} {sh : pSH} {σ σ' : pST} {i : Nat} (h1 : σ'.1 i = σ.1 i) (h2 : σ'.2 i = σ.2 i) : pm_E lay cy sh σ' i = pm_E lay cy sh σ i := by
  unfold pm_E
  rw [h1, h2]
  split
  · rw [pm_fs_congr h1 h2]
  all_goals rfl
theorem pm_W_set {lay : Nat → Nat} {cy : Nat → ClassId} {sh : pSH} {N : Nat} {σ σ' : pST} {i : Nat} (hi : i < N) (h : ∀ j, j ≠ i → σ'.1 j = σ.1 j ∧ σ'.2 j = σ.2 j) {e : va_E} (he : e = pm_E lay cy sh σ' i) : (pm_W lay cy sh N σ).set i (lay i, e) = pm_W lay cy sh N σ' := by
  subst he
  apply List.ext_getElem?
  intro k
  by_cases hk : k = i
  · subst hk
    rw [List.getElem?_set_self (by rw [pm_W_len]; exact hi), pm_W_get hi]
  · rw [List.getElem?_set_ne (Ne.symm hk)]
    by_cases hkN : k < N
    · rw [pm_W_get hkN, pm_W_get hkN, pm_E_congr (h k hk).1 (h k hk).2]
    · rw [List.getElem?_eq_none (by rw [pm_W_len]; omega), List.getElem?_eq_none (by rw [pm_W_len]; omega)]
theorem pm_fs_get {lay : Nat → Nat} {σ : pST} {i : Nat} : ∀ (l : List Nat) (k0 k q : Nat), l[k]? = some q → (pm_fs lay σ i k0 l)[k]? = some (pm_fv lay σ i (k0 + k) q)
  | [], _, _, _, h => by simp at h
  | a :: l, k0, 0, q, h => by
    simp at h
    subst h
    simp [pm_fs]
  | a :: l, k0, k + 1, q, h => by
    simp only [List.getElem?_cons_succ] at h
    simp only [pm_fs, List.getElem?_cons_succ]
    rw [pm_fs_get l (k0 + 1) k q h]
    congr 2
    omega
theorem pm_fs_len {lay : Nat → Nat} {σ : pST} {i : Nat} : ∀ (l : List Nat) (k0 : Nat), (pm_fs lay σ i k0 l).length = l.length
  | [], _ => rfl
  | a :: l, k0 => by simp [pm_fs, pm_fs_len l (k0 + 1)]
theorem pm_fv_congr {lay : Nat → Nat} {σ σ' : pST} {i k q : Nat} (h1 : σ'.1 i k = σ.1 i k) (h2 : σ'.2 i k = σ.2 i k) : pm_fv lay σ' i k q = pm_fv lay σ i k q := by
  unfold pm_fv
  rw [h1, h2]
theorem pm_fs_same {lay : Nat → Nat} {σ σ' : pST} {i : Nat} : ∀ (l : List Nat) (k0 : Nat), (∀ k, k0 ≤ k → σ'.1 i k = σ.1 i k ∧ σ'.2 i k = σ.2 i k) → pm_fs lay σ' i k0 l = pm_fs lay σ i k0 l
  | [], _, _ => rfl
  | a :: l, k0, h => by
    simp only [pm_fs]
    rw [pm_fv_congr (h k0 (Nat.le_refl _)).1 (h k0 (Nat.le_refl _)).2, pm_fs_same l (k0 + 1) (fun k hk => h k (by omega))]
theorem pm_fs_set {lay : Nat → Nat} {σ σ' : pST} {i : Nat} {v : Value} : ∀ (l : List Nat) (k0 k q : Nat), l[k]? = some q → pm_fv lay σ' i (k0 + k) q = v → (∀ k', k' ≠ k0 + k → σ'.1 i k' = σ.1 i k' ∧ σ'.2 i k' = σ.2 i k') → (pm_fs lay σ i k0 l).set k v = pm_fs lay σ' i k0 l
  | [], _, _, _, h, _, _ => by simp at h
  | a :: l, k0, 0, q, h, hv, ho => by
    simp at h
    subst h
    simp only [pm_fs, List.set_cons_zero]
    rw [pm_fs_same l (k0 + 1) (fun k' hk => ho k' (by omega)), ← hv]
    rfl
  | a :: l, k0, k + 1, q, h, hv, ho => by
    simp only [List.getElem?_cons_succ] at h
    simp only [pm_fs, List.set_cons_succ]
    rw [pm_fv_congr (ho k0 (by omega)).1 (ho k0 (by omega)).2, pm_fs_set l (k0 + 1) k q h (by rw [← hv]; congr 1; omega) (fun k' hk => ho k' (by omega))]
theorem pm_D {A : Nat → Prop} {lay : Nat → Nat} {cy : Nat → ClassId} {sh : pSH} {N : Nat} {σ : pST} (σ' : pST) (h : va_D A (pm_W lay cy sh N σ)) : va_D A (pm_W lay cy sh N σ') := by
  have key : ∀ (k : Nat) (q : Nat × va_E), (pm_W lay cy sh N σ')[k]? = some q → ∃ q0 : Nat × va_E, (pm_W lay cy sh N σ)[k]? = some q0 ∧ q0.1 = q.1 := by
    intro k q hk
    have hkN : k < N := by
      have := (List.getElem?_eq_some_iff.mp hk).1
      rw [pm_W_len] at this
      exact this
    rw [pm_W_get hkN] at hk
    cases hk
    exact ⟨_, pm_W_get hkN, rfl⟩
  refine ⟨fun i j a b hi hj hab => ?_, fun k q hk => ?_⟩
  · obtain ⟨a0, h1, h2⟩ := key i a hi
    obtain ⟨b0, h3, h4⟩ := key j b hj
    exact h.1 i j a0 b0 h1 h3 (h2.trans (hab.trans h4.symm))
  · obtain ⟨q0, h1, h2⟩ := key k q hk
    rw [← h2]
    exact h.2 k q0 h1
/-- what a field's row in the tables of a class must be: its kind in pm_fk -/
def pm_kd (q : Nat) (t : String × String × String × Bool) : Bool := match q with
  | 0 => !t.2.2.2 && decide (parseFieldDescriptor t.2.2.1 = some .int)
  | 1 => !t.2.2.2 && decide (parseFieldDescriptor t.2.2.1 = some .boolean)
  | 2 => !t.2.2.2 && decide (parseFieldDescriptor t.2.2.1 = some .long)
  | _ => true
def pm_cls (ci : Nat) (q : vw_C) : Prop := (pm_fk ci).length = q.2.2 ∧ (∃ ty : Nat → FieldType, ∀ k, k < q.2.2 → parseFieldDescriptor (q.2.1 k).2.2.1 = some (ty k)) ∧ (∀ a, a < q.2.2 → ∀ b, b < q.2.2 → a ≠ b → (q.2.1 a).2.1 ≠ (q.2.1 b).2.1) ∧ ∀ k, k < q.2.2 → pm_kd ((pm_fk ci).getD k 9) (q.2.1 k) = true
theorem pm_cls_0 : pm_cls 0 (RX0, TX0, 18) := ⟨rfl, ⟨tyX0, tyX0_ok⟩, nmX0, by decide +kernel⟩
theorem pm_cls_1 : pm_cls 1 (RX1, TX1, 3) := ⟨rfl, ⟨tyX1, tyX1_ok⟩, nmX1, by decide +kernel⟩
theorem pm_cls_2 : pm_cls 2 (RX2, TX2, 6) := ⟨rfl, ⟨tyX2, tyX2_ok⟩, nmX2, by decide +kernel⟩
theorem pm_cls_3 : pm_cls 3 (RX3, TX3, 3) := ⟨rfl, ⟨tyX3, tyX3_ok⟩, nmX3, by decide +kernel⟩
theorem pm_cls_4 : pm_cls 4 (RX5, TX5, 4) := ⟨rfl, ⟨tyX5, tyX5_ok⟩, nmX5, by decide +kernel⟩
theorem pm_cls_5 : pm_cls 5 (RX6, TX6, 17) := ⟨rfl, ⟨tyX6, tyX6_ok⟩, nmX6, by decide +kernel⟩
theorem pm_cls_6 : pm_cls 6 (RX7, TX7, 5) := ⟨rfl, ⟨tyX7, tyX7_ok⟩, nmX7, by decide +kernel⟩
theorem pm_cls_7 : pm_cls 7 (RX8, TX8, 61) := ⟨rfl, ⟨tyX8, tyX8_ok⟩, nmX8, by decide +kernel⟩
theorem pm_cl : ∀ (ci : Nat) (q : vw_C), vwCl[ci]? = some q → pm_cls ci q := by
  intro ci q h
  rcases ci with _ | _ | _ | _ | _ | _ | _ | _ | ci
  · cases h; exact pm_cls_0
  · cases h; exact pm_cls_1
  · cases h; exact pm_cls_2
  · cases h; exact pm_cls_3
  · cases h; exact pm_cls_4
  · cases h; exact pm_cls_5
  · cases h; exact pm_cls_6
  · cases h; exact pm_cls_7
  · simp at h
def pm_Fok (Ts : List Cond) (own : String) (idx ci k : Nat) : Prop := ∃ q : vw_C, vwCl[ci]? = some q ∧ k < q.2.2 ∧ Cond.fieldLink own idx (q.2.1 k).1 (q.2.1 k).2.1 (q.2.1 k).2.2.1 ∈ Ts ∧ ∀ w ∈ u_ws q.1 q.2.1 q.2.2, w ∈ Ts
def pm_rt (rt : Nat) : Option FieldType := match rt with
  | 0 => none
  | 1 => some .int
  | 2 => some .boolean
  | _ => some .long
def pm_Q (lay : Nat → Nat) (cy : Nat → ClassId) (sh : pSH) (N : Nat) (D : va_G) (A : Nat → Prop) (σ' : pST) (r : Option pSV) : Array Value → State → Outcome → State → Prop := fun _ st oc t => (oc = .returned (r.map (pm_v lay)) ∧ va_P D vwCl (pm_W lay cy sh N σ') t.heap) ∧ va_F A st t
theorem pm_lk_mem {ls : pLS} {k : Nat} {v : pSV} (h : pm_lk ls k = some v) : (k, v) ∈ ls := by
  unfold pm_lk at h
  cases hf : ls.find? (fun q => q.1 == k) with
  | none => rw [hf] at h; cases h
  | some q =>
    rw [hf] at h
    have h1 := List.mem_of_find?_eq_some hf
    have h2 := List.find?_some hf
    have h3 : q.1 = k := by simpa using h2
    have h4 : q.2 = v := by simpa using h
    rw [← h3, ← h4]
    exact h1
abbrev pm_L (lay : Nat → Nat) (ls : pLS) : List (Nat × Value) := ls.map (fun q => (q.1, pm_v lay q.2))
theorem pm_get {lay : Nat → Nat} {ls : pLS} {nL k : Nat} {v : pSV} {lsA : Array Slot} (hl : lv_has lsA nL (pm_L lay ls)) (h : pm_lk ls k = some v) : lsA[k]? = some (.val (pm_v lay v)) := hl.2.2 (k, pm_v lay v) (List.mem_map.mpr ⟨(k, v), pm_lk_mem h, rfl⟩)
theorem pm_cat (lay : Nat → Nat) (v : pSV) : (pm_v lay v).category = pm_w v := by
  rcases v with x | x | x <;> rfl
theorem pm_s1_L {lay : Nat → Nat} {ls : pLS} {k : Nat} {v : pSV} : (k, pm_v lay v) :: (pm_L lay ls).filter (fun q => !(q.1 == k) && !(q.1 + 1 == k && q.2.category == 2)) = pm_L lay (pm_s1 ls k v) := by
  simp only [pm_s1, pm_L, List.map_cons, List.filter_map]
  congr 3
  funext q
  simp [pm_cat]
theorem pm_s2_L {lay : Nat → Nat} {ls : pLS} {k : Nat} {v : pSV} : (k, pm_v lay v) :: (pm_L lay ls).filter (fun q => !(q.1 == k) && (!(q.1 == k + 1) && !(q.1 + 1 == k && q.2.category == 2))) = pm_L lay (pm_s2 ls k v) := by
  simp only [pm_s2, pm_L, List.map_cons, List.filter_map]
  congr 3
  funext q
  simp [pm_cat]
theorem pm_lt {sh : pSH} {N i : Nat} (hN : ∀ i, N ≤ i → sh i = .inr (9, 0)) (h : sh i ≠ .inr (9, 0)) : i < N := by
  rcases Nat.lt_or_ge i N with q | q
  · exact q
  · exact absurd (hN i q) h
