/-! ===== what the constructors make, as the pure machine's worlds ===== -/
def dm_xp (b i : Nat) (I : Nat → Int32) (k q : Nat) : dV := match q with
  | 0 => .inr (.inl (I k))
  | 1 => .inr (.inl (I k))
  | 2 => .inr (.inr 0)
  | 3 => .inr (.inl (I k))
  | d + 4 => .inl (some (b + (i + d)))
def dm_xs (b i : Nat) (I : Nat → Int32) : Nat → List Nat → List dV
  | _, [] => []
  | k, q :: l => dm_xp b i I k q :: dm_xs b i I (k + 1) l
def dm_chk (b i : Nat) (c : dC) (s : Nat ⊕ (Nat × Nat)) (I : Nat → Int32) : Bool := match c, s with
  | .inl q, .inl cj => decide (q.1 = cj) && decide (q.2 = dm_xs b i I 0 (pm_fk cj))
  | .inr (.inl (0, n)), .inr (0, n') => decide (n = n')
  | .inr (.inl (1, n)), .inr (1, n') => decide (n = n')
  | .inr (.inl (2, n)), .inr (2, n') => decide (n = n')
  | .inr (.inr l), .inr (3, n') => decide (l = (List.range n').map (fun j => some (b + (i + 1 + 8 * j))))
  | _, _ => false
theorem dm_xs_map {lay : Nat → Nat} {b i : Nat} {σ : pST} (h2 : ∀ k, σ.2 i k = 0) : ∀ (l : List Nat) (k : Nat), (dm_xs b i (σ.1 i) k l).map (dm_f lay) = pm_fs (fun j => lay (b + j)) σ i k l
  | [], _ => rfl
  | q :: l, k => by
    simp only [dm_xs, pm_fs, List.map_cons]
    rw [dm_xs_map h2 l (k + 1)]
    congr 1
    unfold dm_xp pm_fv
    split
    · rfl
    · rfl
    · show Value.long 0 = _
      rw [h2]
    · rfl
    · rfl
theorem dm_arr {cA : ClassId} {n : Nat} {f g : Nat → Value} (h : ∀ j, j < n → f j = g j) : arrV cA n f = arrV cA n g := by
  unfold arrV
  congr 1
  apply Array.ext
  · simp
  · intro i h1 h2
    simp only [Array.getElem_ofFn]
    exact h i (by simpa using h1)
theorem dm_at {D : va_G} {lay : Nat → Nat} {cy : Nat → ClassId} {b i : Nat} {sh : pSH} {σ : pST} {c : dC} {H : Heap} (hc : dm_chk b i c (sh i) (σ.1 i) = true) (h2 : ∀ k, σ.2 i k = 0) (hz : ∀ tc n, sh i = .inr (tc, n) → ∀ k, σ.1 i k = 0) (h : va_at D vwCl (lay (b + i), dm_E lay cy c) H) : va_at D vwCl (lay (b + i), pm_E (fun j => lay (b + j)) cy sh σ i) H := by
  unfold dm_chk at hc
  split at hc
  · rename_i q cj hs
    simp only [Bool.and_eq_true, decide_eq_true_eq] at hc
    obtain ⟨q1, q2⟩ := q
    obtain ⟨e1, e2⟩ := hc
    simp only at e1 e2
    subst e1
    rw [pm_E_obj hs, ← dm_xs_map h2, ← e2]
    exact h
  · rename_i n n' hs
    have e := of_decide_eq_true hc
    subst e
    rw [pm_E_int hs, show σ.1 i = fun _ => 0 from funext (hz _ _ hs)]
    exact h
  · rename_i n n' hs
    have e := of_decide_eq_true hc
    subst e
    rw [pm_E_lng hs, show σ.2 i = fun _ => 0 from funext h2]
    exact h
  · rename_i n n' hs
    have e := of_decide_eq_true hc
    subst e
    rw [pm_E_boo hs, show σ.1 i = fun _ => 0 from funext (hz _ _ hs)]
    exact h
  · rename_i l n' hs
    have e := of_decide_eq_true hc
    subst e
    have e3 : pm_E (fun j => lay (b + j)) cy sh σ i = .inl (cy 3, n', .inr (.inr (.inr (.inr (fun j => some (lay (b + (i + 1 + 8 * j)))))))) := by
      unfold pm_E; rw [hs]; rfl
    rw [e3]
    have h' : H[lay (b + i)]? = some (vp_cell (cy 3) (((List.range n').map (fun j => some (b + (i + 1 + 8 * j)))).length, .inr (.inr (.inr (.inr (fun j => ((((List.range n').map (fun j => some (b + (i + 1 + 8 * j))))[j]?).getD none).map lay)))))) := h
    show H[lay (b + i)]? = some (vp_cell (cy 3) (n', .inr (.inr (.inr (.inr (fun j => some (lay (b + (i + 1 + 8 * j)))))))))
    rw [h', vp_cell_q, vp_cell_q]
    congr 1
    rw [List.length_map, List.length_range]
    apply dm_arr
    intro j hj
    rw [List.getElem?_map, List.getElem?_range hj]
    rfl
  · cases hc
theorem dm_toP {D : va_G} {lay : Nat → Nat} {cy : Nat → ClassId} {b N : Nat} {sh : pSH} {σ : pST} {cs : List dC} {H : Heap} (hl : b + N ≤ cs.length) (hc : ∀ i, i < N → dm_chk b i (cs.getD (b + i) dm_0) (sh i) (σ.1 i) = true) (h2 : ∀ i k, σ.2 i k = 0) (hz : ∀ i tc n, sh i = .inr (tc, n) → ∀ k, σ.1 i k = 0) (hP : va_P D vwCl (dm_W lay cy cs) H) : va_P D vwCl (pm_W (fun j => lay (b + j)) cy sh N σ) H := by
  intro k q hk
  have hkN : k < N := by
    have := (List.getElem?_eq_some_iff.mp hk).1
    rw [pm_W_len] at this
    exact this
  rw [pm_W_get hkN] at hk
  cases hk
  exact dm_at (hc k hkN) (h2 k) (hz k) (hP (b + k) _ (dm_W_get (by omega)))
theorem dm_inj {A : Nat → Prop} {lay : Nat → Nat} {cy : Nat → ClassId} {cs : List dC} (hD : va_D A (dm_W lay cy cs)) {i j : Nat} (hi : i < cs.length) (hj : j < cs.length) (h : lay i = lay j) : i = j := hD.1 i j _ _ (dm_W_get hi) (dm_W_get hj) h
theorem dm_toD {A : Nat → Prop} {lay : Nat → Nat} {cy : Nat → ClassId} {b N : Nat} {sh : pSH} {σ : pST} {cs : List dC} (hl : b + N ≤ cs.length) (hD : va_D A (dm_W lay cy cs)) : va_D A (pm_W (fun j => lay (b + j)) cy sh N σ) := by
  have key : ∀ (k : Nat) (q : Nat × va_E), (pm_W (fun j => lay (b + j)) cy sh N σ)[k]? = some q → k < N ∧ q.1 = lay (b + k) := by
    intro k q hk
    have hkN : k < N := by
      have := (List.getElem?_eq_some_iff.mp hk).1
      rw [pm_W_len] at this
      exact this
    rw [pm_W_get hkN] at hk
    cases hk
    exact ⟨hkN, rfl⟩
  refine ⟨fun i j x y hi hj hxy => ?_, fun k q hk => ?_⟩
  · obtain ⟨h1, h2⟩ := key i x hi
    obtain ⟨h3, h4⟩ := key j y hj
    have := dm_inj hD (i := b + i) (j := b + j) (by omega) (by omega) (by rw [← h2, ← h4]; exact hxy)
    omega
  · obtain ⟨h1, h2⟩ := key k q hk
    rw [h2]
    exact hD.2 (b + k) _ (dm_W_get (by omega))
/-- the first store of the class: the calls of the attempts, the bound; of the reference: the bound -/
def sX0 : pST := (fun i k => match shX i with
  | .inl 0 => if k = 0 then (if i < 144 then nI ((i - 16) / 8) else nI ((i - 160) / 8)) else 0
  | .inl 6 => if k = 4 then 8 else 0
  | _ => 0, fun _ _ => 0)
def sM0 : pST := (fun i k => match shM i with
  | .inl 7 => if k = 2 then 8 else 0
  | _ => 0, fun _ _ => 0)
theorem sX0_z : ∀ i tc n, shX i = .inr (tc, n) → ∀ k, sX0.1 i k = 0 := fun i tc n h k => by
  unfold sX0
  simp only
  rw [h]
theorem sM0_z : ∀ i tc n, shM i = .inr (tc, n) → ∀ k, sM0.1 i k = 0 := fun i tc n h k => by
  unfold sM0
  simp only
  rw [h]
def okXM : Bool := match kX7_init [.inl (6, dm_df 6)] [.inr (.inr 0)] with
  | some cs => (decide (cs.length = 288) && dm_cl cs) && (match kX8_init (cs ++ [.inl (7, dm_df 7)]) [.inr (.inr 288)] with
    | some cs2 => decide (cs2.length = 332) && (List.range 288).all (fun i => dm_chk 0 i (cs2.getD (0 + i) dm_0) (shX i) (sX0.1 i)) && (List.range 44).all (fun i => dm_chk 288 i (cs2.getD (288 + i) dm_0) (shM i) (sM0.1 i))
    | none => false)
  | none => false
theorem okXM_true : okXM = true := by decide +kernel
theorem made : ∃ cs cs2 : List dC, kX7_init [.inl (6, dm_df 6)] [.inr (.inr 0)] = some cs ∧ cs.length = 288 ∧ dm_cl cs = true ∧ kX8_init (cs ++ [.inl (7, dm_df 7)]) [.inr (.inr 288)] = some cs2 ∧ cs2.length = 332 ∧ (∀ i, i < 288 → dm_chk 0 i (cs2.getD (0 + i) dm_0) (shX i) (sX0.1 i) = true) ∧ ∀ i, i < 44 → dm_chk 288 i (cs2.getD (288 + i) dm_0) (shM i) (sM0.1 i) = true := by
  have h := okXM_true
  unfold okXM at h
  split at h
  · rename_i cs hcs
    rw [Bool.and_eq_true] at h
    obtain ⟨h1, h2⟩ := h
    rw [Bool.and_eq_true] at h1
    split at h2
    · rename_i cs2 hcs2
      rw [Bool.and_eq_true, Bool.and_eq_true] at h2
      obtain ⟨⟨h3, h4⟩, h5⟩ := h2
      exact ⟨cs, cs2, hcs, of_decide_eq_true h1.1, h1.2, hcs2, of_decide_eq_true h3, fun i hi => List.all_eq_true.mp h4 i (List.mem_range.mpr hi), fun i hi => List.all_eq_true.mp h5 i (List.mem_range.mpr hi)⟩
    · cases h2
  · cases h
