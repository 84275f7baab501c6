/-! ===== the reference's groups: a forest whose roots are the labels ===== -/
abbrev FRt (P L : Nat → Nat) (n : Nat) : Prop := ∀ d, d < n → P d ≤ d ∧ L (P d) = L d ∧ L (L d) = L d ∧ L d ≤ d ∧ (P d = d ↔ L d = d)
def grM (I : Nat → Nat → Int32) (n : Nat) (P : Nat → Nat) : Nat → Nat → Int32 := fun x y => if x = 31 ∧ y < n then nI (P y) else I x y
theorem grM_r {I : Nat → Nat → Int32} {n d : Nat} {P : Nat → Nat} (h : d < n) : grM I n P 31 d = nI (P d) := if_pos ⟨rfl, h⟩
theorem grM_o {I : Nat → Nat → Int32} {n x : Nat} {P : Nat → Nat} (h : x ≠ 31) : grM I n P x = I x := by
  funext y
  exact if_neg (fun z => h z.1)
theorem grM_s {I : Nat → Nat → Int32} {n d v : Nat} {P : Nat → Nat} (h : d < n) : pm_ui (grM I n P) 31 d (nI v) = grM I n (fup P d v) := by
  funext x y
  rw [pm_ui_a]
  unfold grM
  by_cases e : x = 31 ∧ y = d
  · rw [if_pos e, if_pos ⟨e.1, by omega⟩, e.2, fup_s]
  · rw [if_neg e]
    by_cases q : x = 31 ∧ y < n
    · rw [if_pos q, if_pos q, fup_n (fun z => e ⟨q.1, z⟩)]
    · rw [if_neg q, if_neg q]
theorem fr_id {n : Nat} : FRt (fun d => d) (fun d => d) n := fun d _ => ⟨Nat.le_refl _, rfl, rfl, Nat.le_refl _, Iff.rfl⟩
theorem fr_join {P L : Nat → Nat} {n f c : Nat} (h : FRt P L n) (hf : f < n) (hc : c < n) : FRt (fup P (max (L f) (L c)) (min (L f) (L c))) (joinL n L (L f) (L c)) n := by
  obtain ⟨_, _, f3, f4, _⟩ := h f hf
  obtain ⟨_, _, c3, c4, _⟩ := h c hc
  have ha : L f < n := by omega
  have hb : L c < n := by omega
  have hj : ∀ d, d < n → joinL n L (L f) (L c) d = if L d = L f ∨ L d = L c then min (L f) (L c) else L d := fun d hd => by
    unfold joinL
    by_cases q : L d = L f ∨ L d = L c
    · rw [if_pos ⟨hd, q⟩, if_pos q]
    · rw [if_neg (fun z => q z.2), if_neg q]
  have hmin : min (L f) (L c) = L f ∨ min (L f) (L c) = L c := by omega
  have hmax : max (L f) (L c) = L f ∨ max (L f) (L c) = L c := by omega
  have jmin : joinL n L (L f) (L c) (min (L f) (L c)) = min (L f) (L c) := by
    rw [hj _ (by omega), if_pos]
    rcases hmin with q | q
    · rw [q]; exact .inl f3
    · rw [q]; exact .inr c3
  have jmax : joinL n L (L f) (L c) (max (L f) (L c)) = min (L f) (L c) := by
    rw [hj _ (by omega), if_pos]
    rcases hmax with q | q
    · rw [q]; exact .inl f3
    · rw [q]; exact .inr c3
  intro d hd
  obtain ⟨d1, d2, d3, d4, d5⟩ := h d hd
  have hjd := joinL_le (m := n) (L := L) (x := L f) (y := L c) (d := d)
  have jj : joinL n L (L f) (L c) (joinL n L (L f) (L c) d) = joinL n L (L f) (L c) d := by
    by_cases q : L d = L f ∨ L d = L c
    · have e : joinL n L (L f) (L c) d = min (L f) (L c) := by rw [hj d hd, if_pos q]
      rw [e, jmin]
    · have e : joinL n L (L f) (L c) d = L d := by rw [hj d hd, if_neg q]
      rw [e, hj _ (by omega), if_neg]
      · exact d3
      · rw [d3]; exact q
  by_cases e : d = max (L f) (L c)
  · subst e
    rw [fup_s]
    refine ⟨by omega, by rw [jmin, jmax], jj, by omega, ?_⟩
    rw [jmax]
  · rw [fup_n e]
    refine ⟨d1, ?_, jj, by omega, ?_⟩
    · rw [hj _ (by omega), hj d hd, d2]
    · rw [d5, hj d hd]
      by_cases q : L d = L f ∨ L d = L c
      · rw [if_pos q]
        constructor
        · intro z
          rw [z] at q
          omega
        · intro z
          rw [← z]
          rcases hmin with w | w
          · rw [w]; exact f3
          · rw [w]; exact c3
      · rw [if_neg q]
theorem fr_flat {P L : Nat → Nat} {n c : Nat} (h : FRt P L n) (hc : c < n) : FRt (fup P c (L c)) L n := by
  obtain ⟨_, _, c3, c4, _⟩ := h c hc
  intro d hd
  obtain ⟨d1, d2, d3, d4, d5⟩ := h d hd
  by_cases e : d = c
  · subst e
    rw [fup_s]
    exact ⟨c4, c3, c3, c4, Iff.rfl⟩
  · rw [fup_n e]
    exact ⟨d1, d2, d3, d4, d5⟩
def cntL (L : Nat → Nat) : Nat → Nat
  | 0 => 0
  | m + 1 => cntL L m + (if L m = m then 1 else 0)
def tcN (A : AtS) (k : Nat) : Nat → Nat
  | 0 => cond (wrA A k) 1 0
  | i + 1 => if tcN A k i = 1 ∨ A.kl i = k then 1 else 0
theorem tcN_le {A : AtS} {k : Nat} : ∀ i, tcN A k i ≤ 1
  | 0 => by unfold tcN; cases wrA A k <;> decide
  | i + 1 => by unfold tcN; split <;> omega
theorem tcN_s {A : AtS} {k i : Nat} : tcN A k (i + 1) = if tcN A k i = 1 ∨ A.kl i = k then 1 else 0 := rfl
theorem tcN_iff {A : AtS} {k : Nat} : ∀ i, tcN A k i = 1 ↔ ((∃ j, j < i ∧ A.kl j = k) ∨ wrA A k = true)
  | 0 => by
    unfold tcN
    cases wrA A k with
    | true => exact ⟨fun _ => .inr rfl, fun _ => rfl⟩
    | false => exact ⟨fun z => (by cases z), fun z => z.elim (fun q => absurd q.choose_spec.1 (Nat.not_lt_zero _)) (fun w => (by cases w))⟩
  | i + 1 => by
    have ih := tcN_iff (A := A) (k := k) i
    rw [tcN_s]
    constructor
    · intro z
      split at z
      · rename_i q
        rcases q with q | q
        · rcases ih.mp q with ⟨j, w1, w2⟩ | w
          · exact .inl ⟨j, by omega, w2⟩
          · exact .inr w
        · exact .inl ⟨i, by omega, q⟩
      · cases z
    · intro z
      rw [if_pos]
      rcases z with ⟨j, w1, w2⟩ | w
      · by_cases e : j = i
        · exact .inr (by rw [← e]; exact w2)
        · exact .inl (ih.mpr (.inl ⟨j, by omega, w2⟩))
      · exact .inl (ih.mpr (.inr w))
