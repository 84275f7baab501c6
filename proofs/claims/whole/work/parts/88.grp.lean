/-! ===== groups, plainly ===== -/
def joinL (m : Nat) (L : Nat → Nat) (x y : Nat) : Nat → Nat := fun d => if d < m ∧ (L d = x ∨ L d = y) then min x y else L d
abbrev touA (A : AtS) (k : Nat) : Prop := keptA A k ∨ wrA A k = true
def tchL (am : Nat → AtS) (n k : Nat) (L : Nat → Nat) : Nat → Option Nat × (Nat → Nat)
  | 0 => (none, L)
  | c + 1 => if touA (am c) k then (match (tchL am n k L c).1 with
      | none => (some c, (tchL am n k L c).2)
      | some f => (some f, joinL n (tchL am n k L c).2 ((tchL am n k L c).2 f) ((tchL am n k L c).2 c)))
    else tchL am n k L c
def grpL (am : Nat → AtS) (n : Nat) : Nat → Nat → Nat
  | 0 => fun d => d
  | k + 1 => (tchL am n k (grpL am n k) n).2
theorem joinL_le {m : Nat} {L : Nat → Nat} {x y d : Nat} : joinL m L x y d ≤ L d := by
  unfold joinL
  split
  · omega
  · omega
theorem tchL_le {am : Nat → AtS} {n k : Nat} {L : Nat → Nat} : ∀ c d, (tchL am n k L c).2 d ≤ L d
  | 0, d => Nat.le_refl _
  | c + 1, d => by
    have ih := tchL_le (am := am) (n := n) (k := k) (L := L) c d
    unfold tchL
    split
    · split
      · exact ih
      · exact Nat.le_trans joinL_le ih
    · exact ih
theorem tchL_f {am : Nat → AtS} {n k : Nat} {L : Nat → Nat} : ∀ c f, (tchL am n k L c).1 = some f → f < c
  | 0, f, h => by cases h
  | c + 1, f, h => by
    have ih := tchL_f (am := am) (n := n) (k := k) (L := L) c
    unfold tchL at h
    split at h
    · split at h
      · cases h; omega
      · rename_i g hg
        cases h
        have := ih f hg
        omega
    · have := ih f h
      omega
theorem grpL_le {am : Nat → AtS} {n : Nat} : ∀ k d, grpL am n k d ≤ d
  | 0, d => Nat.le_refl _
  | k + 1, d => Nat.le_trans (tchL_le n d) (grpL_le k d)
theorem joinL_x {m : Nat} {L : Nat → Nat} {x : Nat} : joinL m L x x = L := by
  funext d
  unfold joinL
  split
  · rename_i h
    rw [Nat.min_self]
    rcases h.2 with z | z <;> exact z.symm
  · rfl
theorem joinL_t {i : Nat} {L : Nat → Nat} {x y : Nat} (h : L i = x ∨ L i = y) : fup (joinL i L x y) i (min x y) = joinL (i + 1) L x y := by
  funext d
  by_cases e : d = i
  · subst e
    rw [fup_s]
    unfold joinL
    rw [if_pos ⟨Nat.lt_succ_self _, h⟩]
  · rw [fup_n e]
    unfold joinL
    by_cases q : d < i ∧ (L d = x ∨ L d = y)
    · rw [if_pos q, if_pos ⟨by omega, q.2⟩]
    · rw [if_neg q, if_neg (fun z => q ⟨by omega, z.2⟩)]
theorem joinL_f {i : Nat} {L : Nat → Nat} {x y : Nat} (h : ¬ (L i = x ∨ L i = y)) : joinL i L x y = joinL (i + 1) L x y := by
  funext d
  unfold joinL
  by_cases q : d < i ∧ (L d = x ∨ L d = y)
  · rw [if_pos q, if_pos ⟨by omega, q.2⟩]
  · have q2 : ¬ (d < i + 1 ∧ (L d = x ∨ L d = y)) := fun z => q ⟨by
      have : d ≠ i := fun e => h (e ▸ z.2)
      omega, z.2⟩
    rw [if_neg q, if_neg q2]
theorem joinL_i {i : Nat} {L : Nat → Nat} {x y : Nat} : joinL i L x y i = L i := if_neg (fun z => Nat.lt_irrefl _ z.1)
/-! the class's store with the groups in it -/
def grI (I : Nat → Nat → Int32) (b n : Nat) (L : Nat → Nat) : Nat → Nat → Int32 := fun x y => if b + 7 ≤ x ∧ x < b + 7 + 8 * n ∧ (x - (b + 7)) % 8 = 0 ∧ y = 7 then nI (L ((x - (b + 7)) / 8)) else I x y
theorem grI_r {I : Nat → Nat → Int32} {b n d : Nat} {L : Nat → Nat} (h : d < n) : grI I b n L (b + 7 + 8 * d) 7 = nI (L d) := by
  unfold grI
  rw [if_pos ⟨by omega, by omega, by omega, rfl⟩]
  congr 2
  omega
theorem grI_o {I : Nat → Nat → Int32} {b n x y : Nat} {L : Nat → Nat} (h : y ≠ 7) : grI I b n L x y = I x y := if_neg (fun z => h z.2.2.2)
theorem grI_b {I : Nat → Nat → Int32} {b n x y : Nat} {L : Nat → Nat} (h : x < b + 7) : grI I b n L x y = I x y := if_neg (fun z => by have := z.1; omega)
theorem grI_s {I : Nat → Nat → Int32} {b n d v : Nat} {L : Nat → Nat} (h : d < n) : pm_ui (grI I b n L) (b + 7 + 8 * d) 7 (nI v) = grI I b n (fup L d v) := by
  funext x y
  rw [pm_ui_a]
  unfold grI
  by_cases e : x = b + 7 + 8 * d ∧ y = 7
  · rw [if_pos e, if_pos ⟨by omega, by omega, by omega, e.2⟩, show (x - (b + 7)) / 8 = d by omega, fup_s]
  · rw [if_neg e]
    by_cases q : b + 7 ≤ x ∧ x < b + 7 + 8 * n ∧ (x - (b + 7)) % 8 = 0 ∧ y = 7
    · rw [if_pos q, if_pos q, fup_n (by omega)]
    · rw [if_neg q, if_neg q]
theorem grI_n {I : Nat → Nat → Int32} {b i : Nat} {L : Nat → Nat} : pm_ui (grI I b i L) (b + 7 + 8 * i) 7 (nI (L i)) = grI I b (i + 1) L := by
  funext x y
  rw [pm_ui_a]
  unfold grI
  by_cases e : x = b + 7 + 8 * i ∧ y = 7
  · rw [if_pos e, if_pos ⟨by omega, by omega, by omega, e.2⟩, show (x - (b + 7)) / 8 = i by omega]
  · rw [if_neg e]
    by_cases q : b + 7 ≤ x ∧ x < b + 7 + 8 * i ∧ (x - (b + 7)) % 8 = 0 ∧ y = 7
    · rw [if_pos q, if_pos ⟨q.1, by omega, q.2.2⟩]
    · rw [if_neg q, if_neg (by omega)]
theorem grI_0 {I : Nat → Nat → Int32} {b : Nat} {L : Nat → Nat} : grI I b 0 L = I := by
  funext x y
  exact if_neg (by omega)
theorem tou_iff {σ : pST} {a c k : Nat} {A : AtS} (h : RXat σ a c A) (hk : k < 32) : ((σ.1 a 11 ||| σ.1 a 12) &&& (nI 1 <<< (nI k &&& 31)) = 0) ↔ ¬ touA A k := by
  rw [bit_iff hk, Int32.toBitVec_or, BitVec.getLsbD_or, h.wb k hk]
  have h1 := h.km k hk
  unfold touA wrA
  cases hb : (σ.1 a 11).toBitVec.getLsbD k with
  | true =>
    rw [hb] at h1
    have := h1.mp rfl
    simp [this]
  | false =>
    rw [hb] at h1
    have : ¬ keptA A k := fun z => by cases h1.mpr z
    simp [this]
