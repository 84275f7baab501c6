/-- what is found otherwise is undone: the tail of the look, whatever is asked of its end -/
theorem rm_redo {σ τ ρ : pST} {B : BkS} {bd w c : Nat} {S : RnS} {o : Int32} (r : RM ρ B bd S) (hok : ∀ d, d < 16 → 1 ≤ S.bg d → AtOK d (S.am d)) (hw : w < 4) (hc : c < 16) (hn : S.nm c ≤ 1000) (hlr : S.lr ≤ 16) (hrr : S.rr ≤ 16) (hb1 : bd ≤ 100) (hf : S.fe = false) (ho : τ.1 0 27 = o) (e : kX8_conflict0 τ [.inr (.inr 0), .inl (nI c), .inl o] = some (ρ, none)) (f2 : FrR σ ρ) : pR shM tX8_lookStep fX8_lookStep qX8_lookStep lX8_lookStep 5 0 (fun x => x.2 = none ∧ RM x.1 B bd (redoS bd S w c) ∧ FrR σ x.1) 152 [(3, .inl (nI 1)), (0, .inr (.inr 0)), (1, .inl (nI w)), (2, .inl (nI c))] [] τ := by
  have w1 := r.2.ud
  have w2 := r.2.nm _ hc
  have w3 := r.2.bd
  have w4 := r.2.lr
  have w5 := r.2.rr
  have w6 : ∀ k, k < 32 → ρ.1 21 (32 * c + k) = 0 ∨ ρ.1 21 (32 * c + k) = 1 := fun k hk => by
    rw [(r.1.tb.st k _ hk hc).1]
    cases S.T.st c k with
    | zero => exact .inl rfl
    | succ m => exact .inr rfl
  by_cases hbb : bd ≤ S.nm c + 1
  · obtain ⟨ru, fu⟩ := rm_undo_f r hc hbb
    have er : redoS bd S w c = undoS bd S c := by
      unfold redoS
      rw [if_neg]
      intro z
      have z1 : decide (bd ≤ S.nm c + 1) = false := z.1
      exact of_decide_eq_false z1 hbb
    rw [er]
    exact lt_X8_lookStep_f hw hc ho e w1 w6 w2 hn w3 hb1 w4 hlr w5 hrr hbb ⟨rfl, ru, f2.trans fu⟩
  · obtain ⟨ru, fu⟩ := rm_undo_u r hc hf hbb
    have hfu : (undoS bd S c).fe = false := decide_eq_false hbb
    have gb : (undoS bd S c).bg = S.bg := rfl
    have ga : (undoS bd S c).am = S.am := rfl
    unfold redoS
    generalize undoS bd S c = U at ru hfu gb ga ⊢
    by_cases hlt : c < S.rr
    · rw [if_pos ⟨hfu, hlt⟩]
      obtain ⟨ρ', e3, r3, f3⟩ := rm_toRun (w := w) (c := c) ru (by rw [gb, ga]; exact hok) hw hc
      exact lt_X8_lookStep_r hw hc ho e w1 w6 w2 hn w3 hb1 w4 hlr w5 hrr hbb hlt e3 ⟨rfl, r3, f2.trans (fu.trans f3)⟩
    · rw [if_neg (fun z => hlt z.2)]
      exact lt_X8_lookStep_u hw hc ho e w1 w6 w2 hn w3 hb1 w4 hlr w5 hrr hbb (Nat.le_of_not_lt hlt) ⟨rfl, ru, f2.trans fu⟩
