/-! ===== what stays so at every turn of the plain machine ===== -/
theorem sok_toLook {B : BkS} {sz w c : Nat} {S : RnS} (h : SOK B sz S) (hc : c < B.n) (hb : 1 ≤ S.bg c) : SOK B sz (toLookS S w c) := by
  obtain ⟨i1, i2, i3, i4, i5, i6, i7, i8, i9, i10, i11, i12⟩ := h
  refine ⟨i1, i2, i3, ?_, ?_, ?_, i7, i8, i9, i10, i11, i12⟩
  all_goals intro v
  all_goals dsimp only [toLookS, mkRnS_T, mkRnS_am, mkRnS_bg, mkRnS_dd, mkRnS_da, mkRnS_al, mkRnS_hw, mkRnS_aw, mkRnS_nm, mkRnS_tk, mkRnS_tc, mkRnS_tn, mkRnS_rr, mkRnS_lr, mkRnS_fe, mkRnS_lk, mkRnS_ud, mkRnS_gu, mkRnS_cn, mkRnS_cc, mkRnS_co]
  all_goals by_cases e : v = w
  · subst e; rw [fup_s]; omega
  · rw [fup_n e]; exact i4 v
  · subst e; rw [fup_s, fup_s]; exact fun _ => ⟨hc, hb⟩
  · rw [fup_n e, fup_n e]; exact i5 v
  · subst e; rw [fup_s, fup_s]; exact fun _ => i3 c
  · rw [fup_n e, fup_n e]; exact i6 v
theorem sok_toRun {B : BkS} {sz w c : Nat} {S : RnS} (h : SOK B sz S) (hc : c < B.n) : SOK B sz (toRunS S w c) := by
  obtain ⟨i1, i2, i3, i4, i5, i6, i7, i8, i9, i10, i11, i12⟩ := h
  refine ⟨?_, ?_, i3, ?_, ?_, ?_, i7, i8, ?_, ?_, i11, i12⟩
  all_goals intro v
  all_goals dsimp only [toRunS, mkRnS_T, mkRnS_am, mkRnS_bg, mkRnS_dd, mkRnS_da, mkRnS_al, mkRnS_hw, mkRnS_aw, mkRnS_nm, mkRnS_tk, mkRnS_tc, mkRnS_tn, mkRnS_rr, mkRnS_lr, mkRnS_fe, mkRnS_lk, mkRnS_ud, mkRnS_gu, mkRnS_cn, mkRnS_cc, mkRnS_co]
  · by_cases e : v = c
    · subst e; rw [fup_s]; omega
    · rw [fup_n e]; exact i1 v
  · by_cases e : v = c
    · subst e; rw [fup_s]; omega
    · rw [fup_n e]; exact i2 v
  · by_cases e : v = w
    · subst e; rw [fup_s]; omega
    · rw [fup_n e]; exact i4 v
  · by_cases e : v = w
    · subst e; rw [fup_s, fup_s]; intro _; refine ⟨hc, ?_⟩; rw [fup_s]; omega
    · rw [fup_n e, fup_n e]
      intro hv
      refine ⟨(i5 v hv).1, ?_⟩
      by_cases e2 : S.tc v = c
      · rw [e2, fup_s]; omega
      · rw [fup_n e2]; exact (i5 v hv).2
  · by_cases e : v = w
    · subst e; rw [fup_s]; omega
    · rw [fup_n e]; exact i6 v
  · by_cases e : v = c
    · subst e; rw [fup_s, fup_s]; exact fun _ _ => at0_ok v
    · rw [fup_n e, fup_n e]; exact i9 v
  · by_cases e : v = c
    · subst e; rw [fup_s, fup_s]; exact fun _ => .inr (by omega)
    · rw [fup_n e, fup_n e]; exact i10 v
theorem sok_lr {B : BkS} {sz r : Nat} {S : RnS} (h : SOK B sz S) (hr : r ≤ B.n) : SOK B sz (mkRnS S.T S.am S.bg S.dd S.da S.al S.hw S.aw S.nm S.tk S.tc S.tn S.rr (r) S.fe S.lk S.ud S.gu S.cn S.cc S.co) := by
  obtain ⟨i1, i2, i3, i4, i5, i6, i7, i8, i9, i10, i11, i12⟩ := h
  exact ⟨i1, i2, i3, i4, i5, i6, i7, hr, i9, i10, i11, i12⟩
theorem sok_clr {B : BkS} {sz w : Nat} {S : RnS} (h : SOK B sz S) : SOK B sz (mkRnS S.T S.am S.bg S.dd S.da S.al S.hw S.aw S.nm (fup S.tk w 0) S.tc S.tn S.rr S.lr S.fe S.lk S.ud S.gu S.cn S.cc S.co) := by
  obtain ⟨i1, i2, i3, i4, i5, i6, i7, i8, i9, i10, i11, i12⟩ := h
  refine ⟨i1, i2, i3, ?_, ?_, ?_, i7, i8, i9, i10, i11, i12⟩
  all_goals intro v
  all_goals dsimp only [mkRnS_T, mkRnS_am, mkRnS_bg, mkRnS_dd, mkRnS_da, mkRnS_al, mkRnS_hw, mkRnS_aw, mkRnS_nm, mkRnS_tk, mkRnS_tc, mkRnS_tn, mkRnS_rr, mkRnS_lr, mkRnS_fe, mkRnS_lk, mkRnS_ud, mkRnS_gu, mkRnS_cn, mkRnS_cc, mkRnS_co]
  all_goals by_cases e : v = w
  · subst e; rw [fup_s]; omega
  · rw [fup_n e]; exact i4 v
  · subst e; rw [fup_s]; omega
  · rw [fup_n e]; exact i5 v
  · subst e; rw [fup_s]; omega
  · rw [fup_n e]; exact i6 v
theorem sok_note {B : BkS} {sz c : Nat} {o : Option Nat} {S : RnS} (h : SOK B sz S) : SOK B sz (noteS S c o) := h
theorem sok_lk {B : BkS} {sz k : Nat} {S : RnS} (h : SOK B sz S) : SOK B sz (mkRnS S.T S.am S.bg S.dd S.da S.al S.hw S.aw S.nm S.tk S.tc S.tn S.rr S.lr S.fe (k) S.ud S.gu S.cn S.cc S.co) := h
theorem sok_up {B : BkS} {sz w c j : Nat} {S : RnS} (h : SOK B sz S) (hb : 1 ≤ S.bg c) (hj : j < 16) : SOK B sz (upS S w c j) := by
  have h1 := sok_clr (w := w) h
  obtain ⟨i1, i2, i3, i4, i5, i6, i7, i8, i9, i10, i11, i12⟩ := h1
  refine ⟨?_, ?_, i3, i4, i5, i6, i7, i8, i9, ?_, i11, i12⟩
  all_goals intro v
  all_goals dsimp only [upS, noteS, mkRnS_T, mkRnS_am, mkRnS_bg, mkRnS_dd, mkRnS_da, mkRnS_al, mkRnS_hw, mkRnS_aw, mkRnS_nm, mkRnS_tk, mkRnS_tc, mkRnS_tn, mkRnS_rr, mkRnS_lr, mkRnS_fe, mkRnS_lk, mkRnS_ud, mkRnS_gu, mkRnS_cn, mkRnS_cc, mkRnS_co]
  all_goals by_cases e : v = c
  · subst e; rw [fup_s]; omega
  · rw [fup_n e]; exact i1 v
  · subst e; rw [fup_s, fup_s]; exact fun _ => hj
  · rw [fup_n e, fup_n e]; exact i2 v
  · subst e; exact fun _ => .inr hb
  · rw [fup_n e]; exact i10 v
theorem sok_act {B : BkS} {sz c : Nat} {A : AtS} {S : RnS} (h : SOK B sz S) (hA : AtOK c A) : SOK B sz (actS S c A) := by
  obtain ⟨i1, i2, i3, i4, i5, i6, i7, i8, i9, i10, i11, i12⟩ := h
  refine ⟨i1, i2, i3, i4, i5, i6, i7, i8, ?_, i10, i11, i12⟩
  intro v
  dsimp only [actS, mkRnS_T, mkRnS_am, mkRnS_bg, mkRnS_dd, mkRnS_da, mkRnS_al, mkRnS_hw, mkRnS_aw, mkRnS_nm, mkRnS_tk, mkRnS_tc, mkRnS_tn, mkRnS_rr, mkRnS_lr, mkRnS_fe, mkRnS_lk, mkRnS_ud, mkRnS_gu, mkRnS_cn, mkRnS_cc, mkRnS_co]
  by_cases e : v = c
  · subst e; rw [fup_s]; exact fun _ _ => hA
  · rw [fup_n e]; exact i9 v
theorem sok_end1 {B : BkS} {sz w c : Nat} {S : RnS} (h : SOK B sz S) (hb : 1 ≤ S.bg c) : SOK B sz (end1S S w c B.n) := by
  have h1 := sok_clr (w := w) h
  obtain ⟨i1, i2, i3, i4, i5, i6, i7, i8, i9, i10, i11, i12⟩ := h1
  refine ⟨?_, ?_, i3, i4, i5, i6, ?_, i8, i9, ?_, ?_, ?_⟩
  · intro v
    show (if v < B.n ∧ _ then 0 else fup S.hw c 2 v) ≤ 3
    split
    · omega
    · by_cases e : v = c
      · subst e; rw [fup_s]; omega
      · rw [fup_n e]; exact i1 v
  · intro v
    show (if v < B.n ∧ _ then 0 else fup S.hw c 2 v) = 3 → S.aw v < 16
    split
    · omega
    · by_cases e : v = c
      · subst e; rw [fup_s]; omega
      · rw [fup_n e]; exact i2 v
  · exact Nat.le_trans (wakeR_le _ _) i7
  · intro v hv
    show ((if v < B.n ∧ _ then 0 else fup S.hw c 2 v) = 0 ∧ _) ∨ 1 ≤ S.bg v
    by_cases e : v = c
    · subst e; exact .inr hb
    · rcases i10 v hv with ⟨z1, z2⟩ | z
      · have z3 : S.hw v = 0 := z1
        refine .inl ⟨?_, Nat.le_trans (wakeR_le _ _) z2⟩
        split
        · rfl
        · rw [fup_n e]; exact z3
      · exact .inr z
  · intro j k
    show (if j = c then (cond (wrA (S.am c) k) 1 0) else S.T.st j k) ≤ 2
    split
    · cases wrA (S.am c) k
      · exact Nat.zero_le _
      · show 1 ≤ 2; omega
    · exact i11 j k
  · intro j k
    show (if j = c ∧ wrA (S.am c) k = true then S.nm c else S.T.nm j k) ≤ 100
    split
    · exact i3 c
    · exact i12 j k
theorem sok_end {B : BkS} {sz w c : Nat} {S : RnS} (h : SOK B sz S) (hc : c < B.n) (hb : 1 ≤ S.bg c) : SOK B sz (endS B S w c) := by
  have h1 := sok_end1 (w := w) (c := c) h hb
  unfold endS
  split
  · split
    · exact sok_lr h1 (by omega)
    · exact sok_toLook h1 hc hb
  · exact h1
theorem sok_undo {B : BkS} {bd sz c : Nat} {S : RnS} (h : SOK B sz S) (hc : c < B.n) (hb : 1 ≤ S.bg c) (hn : S.nm c < 100) : SOK B sz (undoS bd S c) := by
  obtain ⟨i1, i2, i3, i4, i5, i6, i7, i8, i9, i10, i11, i12⟩ := h
  refine ⟨?_, ?_, ?_, i4, i5, i6, i7, ?_, i9, ?_, ?_, i12⟩
  · intro v
    show fup S.hw c 0 v ≤ 3
    by_cases e : v = c
    · subst e; rw [fup_s]; omega
    · rw [fup_n e]; exact i1 v
  · intro v
    show fup S.hw c 0 v = 3 → _
    by_cases e : v = c
    · subst e; rw [fup_s]; omega
    · rw [fup_n e]; exact i2 v
  · intro v
    show fup S.nm c (S.nm c + 1) v ≤ 100
    by_cases e : v = c
    · subst e; rw [fup_s]; omega
    · rw [fup_n e]; exact i3 v
  · show (if bd ≤ S.nm c + 1 then S.lr else min S.lr (c + 1)) ≤ B.n
    split <;> omega
  · intro v hv
    show (fup S.hw c 0 v = 0 ∧ S.rr ≤ v) ∨ 1 ≤ S.bg v
    by_cases e : v = c
    · subst e; exact .inr hb
    · rw [fup_n e]; exact i10 v hv
  · intro j k
    show (if j = c ∧ S.T.st c k ≠ 0 then 2 else S.T.st j k) ≤ 2
    split
    · omega
    · exact i11 j k
theorem sok_rr {B : BkS} {sz : Nat} {S : RnS} (h : SOK B sz S) (hr : S.rr < B.n) (hz : 1 ≤ S.bg S.rr) : SOK B sz (mkRnS S.T S.am S.bg S.dd S.da S.al S.hw S.aw S.nm S.tk S.tc S.tn (S.rr + 1) S.lr S.fe S.lk S.ud S.gu S.cn S.cc S.co) := by
  obtain ⟨i1, i2, i3, i4, i5, i6, i7, i8, i9, i10, i11, i12⟩ := h
  refine ⟨i1, i2, i3, i4, i5, i6, ?_, i8, i9, ?_, i11, i12⟩
  · show S.rr + 1 ≤ B.n
    omega
  · intro v hv
    show (S.hw v = 0 ∧ S.rr + 1 ≤ v) ∨ 1 ≤ S.bg v
    by_cases e : v = S.rr
    · rw [e]; exact .inr hz
    · rcases i10 v hv with ⟨z1, z2⟩ | z
      · exact .inl ⟨z1, by omega⟩
      · exact .inr z
theorem sok_step {B : BkS} {bd sz w : Nat} {S : RnS} (hB : BkOK B) (h : SOK B sz S) (hn : ∀ c, S.nm c < 100) : SOK B sz (stepS B bd S w) := by
  unfold stepS
  split
  · rename_i h1
    obtain ⟨hc, hb⟩ := h.tc w (by omega)
    have hc16 : S.tc w < 16 := Nat.lt_of_lt_of_le hc hB.n
    unfold runS
    split
    · exact sok_end h hc hb
    · rename_i ho
      have hd := doA_ok (T := S.T) hB hc16 (h.am _ hc16 hb) ho
      split
      · rename_i j A1 hj
        have := (doA_some hj).2.1
        exact sok_up h hb (by omega)
      · rename_i A hj
        rw [hj] at hd
        have h2 := sok_act h hd
        split
        · exact sok_end h2 hc hb
        · exact h2
  · split
    · rename_i h2
      obtain ⟨hc, hb⟩ := h.tc w (by omega)
      unfold lookS
      have h3 := sok_lk (k := S.lk + 1) (sok_clr (w := w) h)
      split
      · split
        · exact h3
        · rename_i i hi
          have h4 := sok_note (c := S.tc w) (o := wbT S.T ((S.am (S.tc w)).kl i) (S.tc w)) h3
          have h5 := sok_undo (bd := bd) (c := S.tc w) h4 hc hb (hn _)
          unfold redoS
          split
          · exact sok_toRun h5 hc
          · exact h5
      · exact h3
    · unfold takeS
      have i7 := h.rr
      split
      · have h3 := sok_lr (r := S.lr + 1) h (by omega)
        split
        · rename_i hq
          refine sok_toLook h3 (show S.lr < B.n by omega) ?_
          rcases h.bg S.lr (by omega) with ⟨z1, z2⟩ | z
          · omega
          · exact z
        · exact h3
      · split
        · rename_i hr
          split
          · rename_i hq
            have h4 := sok_toRun (w := w) (c := S.rr) h hr
            have h5 := sok_rr h4 hr (by show 1 ≤ fup S.bg S.rr (S.bg S.rr + 1) S.rr; rw [fup_s]; omega)
            exact h5
          · rename_i hq
            refine sok_rr h hr ?_
            rcases h.bg S.rr hr with ⟨z1, z2⟩ | z
            · exact absurd z1 hq
            · exact z
        · exact h
