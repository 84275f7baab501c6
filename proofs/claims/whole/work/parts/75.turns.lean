/-! ===== how many turns a run can take ===== -/
def sumN (f : Nat → Nat) : Nat → Nat
  | 0 => 0
  | n + 1 => sumN f n + f n
theorem sumN_le {f g : Nat → Nat} : ∀ {n}, (∀ i, i < n → f i ≤ g i) → sumN f n ≤ sumN g n
  | 0, _ => Nat.le_refl _
  | n + 1, h => Nat.add_le_add (sumN_le fun i hi => h i (Nat.lt_succ_of_lt hi)) (h n (Nat.lt_succ_self n))
theorem sumN_congr {f g : Nat → Nat} : ∀ {n}, (∀ i, i < n → f i = g i) → sumN f n = sumN g n
  | 0, _ => rfl
  | n + 1, h => by
    unfold sumN
    rw [sumN_congr fun i hi => h i (Nat.lt_succ_of_lt hi), h n (Nat.lt_succ_self n)]
theorem sumN_mono {f : Nat → Nat} {r : Nat} : ∀ {n}, r ≤ n → sumN f r ≤ sumN f n
  | 0, h => by rw [Nat.le_zero.mp h]; exact Nat.le_refl _
  | n + 1, h => by
    by_cases e : r = n + 1
    · rw [e]; exact Nat.le_refl _
    · exact Nat.le_trans (sumN_mono (n := n) (by omega)) (Nat.le_add_right _ _)
theorem sumN_up {f g : Nat → Nat} {c : Nat} : ∀ {n}, c < n → (∀ i, i < n → i ≠ c → g i ≤ f i) → sumN g n + f c ≤ sumN f n + g c
  | 0, h, _ => absurd h (Nat.not_lt_zero _)
  | n + 1, h, hh => by
    unfold sumN
    by_cases e : c = n
    · subst e
      have : sumN g c ≤ sumN f c := sumN_le fun i hi => hh i (Nat.lt_succ_of_lt hi) (Nat.ne_of_lt hi)
      omega
    · have h1 := sumN_up (f := f) (g := g) (c := c) (n := n) (by omega) fun i hi hn => hh i (Nat.lt_succ_of_lt hi) hn
      have h2 := hh n (Nat.lt_succ_self n) (fun z => e z.symm)
      omega
theorem sumN_const {k : Nat} : ∀ n, sumN (fun _ => k) n = n * k
  | 0 => by simp [sumN]
  | n + 1 => by unfold sumN; rw [sumN_const n, Nat.succ_mul]
theorem sumN_add {f g : Nat → Nat} : ∀ n, sumN (fun i => f i + g i) n = sumN f n + sumN g n
  | 0 => rfl
  | n + 1 => by unfold sumN; rw [sumN_add n]; omega
theorem sumN_mul {f : Nat → Nat} {k : Nat} : ∀ n, sumN (fun i => k * f i) n = k * sumN f n
  | 0 => by simp [sumN]
  | n + 1 => by unfold sumN; rw [sumN_mul n, Nat.mul_add]
/-- acts left of worker w's task, and its cap -/
def lfW (B : BkS) (S : RnS) (w : Nat) : Nat := if S.tk w = 1 then B.ac (S.tc w) - (S.am (S.tc w)).p + 1 else if S.tk w = 2 then 1 else 0
def cpW (B : BkS) (S : RnS) (w : Nat) : Nat := if S.tk w = 1 then B.ac (S.tc w) + 1 else if S.tk w = 2 then 1 else 0
theorem lfW_le {B : BkS} {S : RnS} {w : Nat} : lfW B S w ≤ cpW B S w := by
  unfold lfW cpW
  split
  · omega
  · split <;> omega
theorem lfW_1 {B : BkS} {S : RnS} {w : Nat} (h : S.tk w = 1) : lfW B S w = B.ac (S.tc w) - (S.am (S.tc w)).p + 1 := if_pos h
theorem cpW_1 {B : BkS} {S : RnS} {w : Nat} (h : S.tk w = 1) : cpW B S w = B.ac (S.tc w) + 1 := if_pos h
theorem lfW_2 {B : BkS} {S : RnS} {w : Nat} (h : S.tk w = 2) : lfW B S w = 1 := by unfold lfW; rw [h]; rfl
theorem cpW_2 {B : BkS} {S : RnS} {w : Nat} (h : S.tk w = 2) : cpW B S w = 1 := by unfold cpW; rw [h]; rfl
theorem lfW_0 {B : BkS} {S : RnS} {w : Nat} (h : S.tk w = 0) : lfW B S w = 0 := by unfold lfW; rw [h]; rfl
theorem lfW_c {B : BkS} {S S' : RnS} {v : Nat} (h1 : S'.tk v = S.tk v) (h2 : S'.tc v = S.tc v) (h3 : S.tk v = 1 → S'.am (S.tc v) = S.am (S.tc v)) : lfW B S' v = lfW B S v := by
  unfold lfW
  rw [h1, h2]
  split
  · rename_i h; rw [h3 h]
  · rfl
theorem cpW_c {B : BkS} {S S' : RnS} {v : Nat} (h1 : S'.tk v = S.tk v) (h2 : S'.tc v = S.tc v) : cpW B S' v = cpW B S v := by
  unfold cpW
  rw [h1, h2]
def eL (S : RnS) (c : Nat) : Nat := 100 - S.nm c - (if S.hw c = 2 then 1 else 0)
def pcC (B : BkS) (G : Nat) (S : RnS) (c : Nat) : Nat := eL S c * (3 * B.n + sumN (fun c => B.ac c + 1) B.n + G * (B.ac c + 1)) + (100 - S.nm c) * (2 * B.n + G + (B.ac c + 1))
def psi (B : BkS) (sz G : Nat) (S : RnS) : Nat := (sumN (fun c => B.ac c + 2) B.n - sumN (fun c => B.ac c + 2) S.rr) + 2 * (B.n - S.lr) + sumN (lfW B S) sz + sumN (pcC B G S) B.n
abbrev TI (B : BkS) (bd : Nat) (S : RnS) : Prop := (S.rr ≤ B.n) ∧ (S.lr ≤ B.n) ∧ (∀ w, S.tk w ≤ 2) ∧ (∀ w, S.tk w = 1 → S.tc w < B.n ∧ S.hw (S.tc w) = 1) ∧ (∀ w, S.tk w = 2 → S.tc w < B.n) ∧ (∀ v w, S.tk v = 1 → S.tk w = 1 → S.tc v = S.tc w → v = w) ∧ (∀ c, S.nm c < bd)
theorem TI.rr {B : BkS} {bd : Nat} {S : RnS} (h : TI B bd S) : S.rr ≤ B.n := h.1
theorem TI.lr {B : BkS} {bd : Nat} {S : RnS} (h : TI B bd S) : S.lr ≤ B.n := h.2.1
theorem TI.tk {B : BkS} {bd : Nat} {S : RnS} (h : TI B bd S) : ∀ w, S.tk w ≤ 2 := h.2.2.1
theorem TI.rn {B : BkS} {bd : Nat} {S : RnS} (h : TI B bd S) : ∀ w, S.tk w = 1 → S.tc w < B.n ∧ S.hw (S.tc w) = 1 := h.2.2.2.1
theorem TI.lc {B : BkS} {bd : Nat} {S : RnS} (h : TI B bd S) : ∀ w, S.tk w = 2 → S.tc w < B.n := h.2.2.2.2.1
theorem TI.df {B : BkS} {bd : Nat} {S : RnS} (h : TI B bd S) : ∀ v w, S.tk v = 1 → S.tk w = 1 → S.tc v = S.tc w → v = w := h.2.2.2.2.2.1
theorem TI.nm {B : BkS} {bd : Nat} {S : RnS} (h : TI B bd S) : ∀ c, S.nm c < bd := h.2.2.2.2.2.2
abbrev exh (B : BkS) (S : RnS) : Prop := B.n ≤ S.rr ∧ B.n ≤ S.lr
/-- what one turn does to the potential -/
abbrev Turn (B : BkS) (sz G w : Nat) (S S' : RnS) : Prop :=
  (S' = S ∧ exh B S ∧ S.tk w = 0)
  ∨ (psi B sz G S' + 1 ≤ psi B sz G S ∧ S.tk w ≠ 0 ∧ (exh B S → exh B S') ∧ (∀ v, v ≠ w → S'.tk v = S.tk v ∧ cpW B S' v = cpW B S v ∧ lfW B S' v = lfW B S v) ∧ (S'.tk w ≠ 0 → cpW B S' w = cpW B S w ∧ lfW B S' w + 1 ≤ lfW B S w))
  ∨ (psi B sz G S' + 1 ≤ psi B sz G S ∧ ¬ exh B S)
  ∨ (psi B sz G S' + 1 + G * cpW B S w ≤ psi B sz G S ∧ S.tk w ≠ 0)
theorem pcC_c {B : BkS} {G : Nat} {S S' : RnS} {c : Nat} (h1 : S'.nm c = S.nm c) (h2 : S'.hw c = 2 ↔ S.hw c = 2) : pcC B G S' c = pcC B G S c := by
  unfold pcC eL
  rw [h1]
  by_cases h : S.hw c = 2
  · rw [if_pos h, if_pos (h2.mpr h)]
  · rw [if_neg h, if_neg (fun z => h (h2.mp z))]
theorem take_look {B : BkS} {bd sz G w : Nat} {S : RnS} (hI : TI B bd S) (hw : w < sz) (h0 : S.tk w = 0) (hl : S.lr < S.rr) : TI B bd (toLookS (mkRnS S.T S.am S.bg S.dd S.da S.al S.hw S.aw S.nm S.tk S.tc S.tn S.rr (S.lr + 1) S.fe S.lk S.ud S.gu S.cn S.cc S.co) w S.lr) ∧ psi B sz G (toLookS (mkRnS S.T S.am S.bg S.dd S.da S.al S.hw S.aw S.nm S.tk S.tc S.tn S.rr (S.lr + 1) S.fe S.lk S.ud S.gu S.cn S.cc S.co) w S.lr) + 1 ≤ psi B sz G S := by
  obtain ⟨i1, i2, i3, i4, i5, i6, i7⟩ := hI
  constructor
  · refine ⟨i1, ?_, ?_, ?_, ?_, ?_, i7⟩
    all_goals dsimp only [toLookS, mkRnS_T, mkRnS_am, mkRnS_bg, mkRnS_dd, mkRnS_da, mkRnS_al, mkRnS_hw, mkRnS_aw, mkRnS_nm, mkRnS_tk, mkRnS_tc, mkRnS_tn, mkRnS_rr, mkRnS_lr, mkRnS_fe, mkRnS_lk, mkRnS_ud, mkRnS_gu, mkRnS_cn, mkRnS_cc, mkRnS_co]
    · omega
    · intro v
      by_cases e : v = w
      · subst e; rw [fup_s]; omega
      · rw [fup_n e]; exact i3 v
    · intro v
      by_cases e : v = w
      · subst e; rw [fup_s]; omega
      · rw [fup_n e, fup_n e]; exact i4 v
    · intro v
      by_cases e : v = w
      · subst e; rw [fup_s, fup_s]; omega
      · rw [fup_n e, fup_n e]; exact i5 v
    · intro v u h1 h2 h3
      by_cases e : v = w
      · subst e; rw [fup_s] at h1; omega
      · by_cases e2 : u = w
        · subst e2; rw [fup_s] at h2; omega
        · rw [fup_n e] at h1 h3
          rw [fup_n e2] at h2 h3
          exact i6 v u h1 h2 h3
  · unfold psi
    have a1 : sumN (lfW B (toLookS (mkRnS S.T S.am S.bg S.dd S.da S.al S.hw S.aw S.nm S.tk S.tc S.tn S.rr (S.lr + 1) S.fe S.lk S.ud S.gu S.cn S.cc S.co) w S.lr)) sz + lfW B S w ≤ sumN (lfW B S) sz + lfW B (toLookS (mkRnS S.T S.am S.bg S.dd S.da S.al S.hw S.aw S.nm S.tk S.tc S.tn S.rr (S.lr + 1) S.fe S.lk S.ud S.gu S.cn S.cc S.co) w S.lr) w := sumN_up hw fun i _ hn => Nat.le_of_eq (lfW_c (fup_n hn) (fup_n hn) fun _ => rfl)
    rw [lfW_0 h0, lfW_2 (S := toLookS _ _ _) fup_s] at a1
    have a2 : sumN (pcC B G (toLookS (mkRnS S.T S.am S.bg S.dd S.da S.al S.hw S.aw S.nm S.tk S.tc S.tn S.rr (S.lr + 1) S.fe S.lk S.ud S.gu S.cn S.cc S.co) w S.lr)) B.n = sumN (pcC B G S) B.n := sumN_congr fun i _ => pcC_c rfl Iff.rfl
    rw [a2]
    show _ - sumN _ S.rr + 2 * (B.n - (S.lr + 1)) + _ + _ + 1 ≤ _
    omega
theorem take_lr {B : BkS} {bd sz G : Nat} {S : RnS} (hI : TI B bd S) (hl : S.lr < S.rr) : TI B bd (mkRnS S.T S.am S.bg S.dd S.da S.al S.hw S.aw S.nm S.tk S.tc S.tn S.rr (S.lr + 1) S.fe S.lk S.ud S.gu S.cn S.cc S.co) ∧ psi B sz G (mkRnS S.T S.am S.bg S.dd S.da S.al S.hw S.aw S.nm S.tk S.tc S.tn S.rr (S.lr + 1) S.fe S.lk S.ud S.gu S.cn S.cc S.co) + 1 ≤ psi B sz G S := by
  obtain ⟨i1, i2, i3, i4, i5, i6, i7⟩ := hI
  refine ⟨⟨i1, ?_, i3, i4, i5, i6, i7⟩, ?_⟩
  · show S.lr + 1 ≤ B.n
    omega
  · have a1 : sumN (lfW B (mkRnS S.T S.am S.bg S.dd S.da S.al S.hw S.aw S.nm S.tk S.tc S.tn S.rr (S.lr + 1) S.fe S.lk S.ud S.gu S.cn S.cc S.co)) sz = sumN (lfW B S) sz := rfl
    have a2 : sumN (pcC B G (mkRnS S.T S.am S.bg S.dd S.da S.al S.hw S.aw S.nm S.tk S.tc S.tn S.rr (S.lr + 1) S.fe S.lk S.ud S.gu S.cn S.cc S.co)) B.n = sumN (pcC B G S) B.n := rfl
    unfold psi
    rw [a1, a2]
    show _ - sumN _ S.rr + 2 * (B.n - (S.lr + 1)) + _ + _ + 1 ≤ _
    omega
theorem sumN_1 {f : Nat → Nat} {r n : Nat} (h : r < n) : sumN f n - sumN f (r + 1) + f r = sumN f n - sumN f r := by
  have h1 : sumN f (r + 1) ≤ sumN f n := sumN_mono h
  have h2 : sumN f (r + 1) = sumN f r + f r := rfl
  omega
theorem take_rr {B : BkS} {bd sz G : Nat} {S : RnS} (hI : TI B bd S) (hl : S.rr < B.n) : TI B bd (mkRnS S.T S.am S.bg S.dd S.da S.al S.hw S.aw S.nm S.tk S.tc S.tn (S.rr + 1) S.lr S.fe S.lk S.ud S.gu S.cn S.cc S.co) ∧ psi B sz G (mkRnS S.T S.am S.bg S.dd S.da S.al S.hw S.aw S.nm S.tk S.tc S.tn (S.rr + 1) S.lr S.fe S.lk S.ud S.gu S.cn S.cc S.co) + (B.ac S.rr + 2) ≤ psi B sz G S := by
  obtain ⟨i1, i2, i3, i4, i5, i6, i7⟩ := hI
  refine ⟨⟨?_, i2, i3, i4, i5, i6, i7⟩, ?_⟩
  · show S.rr + 1 ≤ B.n
    omega
  · have a1 : sumN (lfW B (mkRnS S.T S.am S.bg S.dd S.da S.al S.hw S.aw S.nm S.tk S.tc S.tn (S.rr + 1) S.lr S.fe S.lk S.ud S.gu S.cn S.cc S.co)) sz = sumN (lfW B S) sz := rfl
    have a2 : sumN (pcC B G (mkRnS S.T S.am S.bg S.dd S.da S.al S.hw S.aw S.nm S.tk S.tc S.tn (S.rr + 1) S.lr S.fe S.lk S.ud S.gu S.cn S.cc S.co)) B.n = sumN (pcC B G S) B.n := rfl
    have a3 := sumN_1 (f := fun c => B.ac c + 2) hl
    unfold psi
    rw [a1, a2]
    show _ - sumN _ (S.rr + 1) + 2 * (B.n - S.lr) + _ + _ + _ ≤ _
    omega
theorem to_run {B : BkS} {bd sz G w c : Nat} {S : RnS} (hI : TI B bd S) (hw : w < sz) (h0 : S.tk w = 0) (hc : c < B.n) (hr : S.hw c = 0) : TI B bd (toRunS S w c) ∧ psi B sz G (toRunS S w c) ≤ psi B sz G S + (B.ac c + 1) := by
  obtain ⟨i1, i2, i3, i4, i5, i6, i7⟩ := hI
  have hne : ∀ v, S.tk v = 1 → S.tc v ≠ c := fun v hv e => by
    have := (i4 v hv).2
    rw [e, hr] at this
    cases this
  constructor
  · refine ⟨i1, i2, ?_, ?_, ?_, ?_, i7⟩
    all_goals dsimp only [toRunS, mkRnS_T, mkRnS_am, mkRnS_bg, mkRnS_dd, mkRnS_da, mkRnS_al, mkRnS_hw, mkRnS_aw, mkRnS_nm, mkRnS_tk, mkRnS_tc, mkRnS_tn, mkRnS_rr, mkRnS_lr, mkRnS_fe, mkRnS_lk, mkRnS_ud, mkRnS_gu, mkRnS_cn, mkRnS_cc, mkRnS_co]
    · intro v
      by_cases e : v = w
      · subst e; rw [fup_s]; omega
      · rw [fup_n e]; exact i3 v
    · intro v
      by_cases e : v = w
      · subst e; rw [fup_s, fup_s, fup_s]; exact fun _ => ⟨hc, rfl⟩
      · rw [fup_n e, fup_n e]
        intro hv
        rw [fup_n (hne v hv)]
        exact i4 v hv
    · intro v
      by_cases e : v = w
      · subst e; rw [fup_s]; omega
      · rw [fup_n e, fup_n e]; exact i5 v
    · intro v u h1 h2 h3
      by_cases e : v = w
      · by_cases e2 : u = w
        · rw [e, e2]
        · subst e
          rw [fup_n e2] at h2 h3
          rw [fup_s] at h3
          exact absurd h3.symm (hne u h2)
      · by_cases e2 : u = w
        · subst e2
          rw [fup_n e] at h1 h3
          rw [fup_s] at h3
          exact absurd h3 (hne v h1)
        · rw [fup_n e] at h1 h3
          rw [fup_n e2] at h2 h3
          exact i6 v u h1 h2 h3
  · have a1 : sumN (lfW B (toRunS S w c)) sz + lfW B S w ≤ sumN (lfW B S) sz + lfW B (toRunS S w c) w := sumN_up hw fun i _ hn => Nat.le_of_eq (lfW_c (fup_n hn) (fup_n hn) fun hv => fup_n (hne i hv))
    have a0 : lfW B (toRunS S w c) w ≤ B.ac c + 1 := by
      rw [lfW_1 (S := toRunS S w c) fup_s, show (toRunS S w c).tc w = c from fup_s]
      omega
    rw [lfW_0 h0] at a1
    have a2 : sumN (pcC B G (toRunS S w c)) B.n = sumN (pcC B G S) B.n := sumN_congr fun i _ => pcC_c rfl (by
      show fup S.hw c 1 i = 2 ↔ S.hw i = 2
      by_cases e : i = c
      · subst e; rw [fup_s, hr]; omega
      · rw [fup_n e])
    unfold psi
    rw [a2]
    show _ - sumN _ S.rr + 2 * (B.n - S.lr) + _ + _ ≤ _
    omega
theorem run_idle {B : BkS} {bd sz G w : Nat} {S S' : RnS} (hI : TI B bd S) (hw : w < sz) (h1 : S.tk w = 1) (e1 : S'.rr = S.rr) (e2 : S'.lr = S.lr) (e3 : S'.tk = fup S.tk w 0) (e4 : S'.tc = S.tc) (e5 : S'.nm = S.nm) (e6 : S'.am = S.am) (e7 : S'.hw = fup S.hw (S.tc w) 3) : TI B bd S' ∧ Turn B sz G w S S' := by
  obtain ⟨i1, i2, i3, i4, i5, i6, i7⟩ := hI
  have hne : ∀ v, v ≠ w → S.tk v = 1 → S.tc v ≠ S.tc w := fun v hn hv e => hn (i6 v w hv h1 e)
  have a1 : sumN (lfW B S') sz + lfW B S w ≤ sumN (lfW B S) sz + lfW B S' w := sumN_up hw fun i _ hn => Nat.le_of_eq (lfW_c (by rw [e3, fup_n hn]) (by rw [e4]) fun hv => by rw [e6])
  have a2 : sumN (pcC B G S') B.n = sumN (pcC B G S) B.n := sumN_congr fun i _ => pcC_c (by rw [e5]) (by
    rw [e7]
    by_cases e : i = S.tc w
    · subst e; rw [fup_s, (i4 w h1).2]; omega
    · rw [fup_n e])
  rw [lfW_0 (S := S') (by rw [e3, fup_s]), lfW_1 h1] at a1
  refine ⟨⟨by rw [e1]; exact i1, by rw [e2]; exact i2, ?_, ?_, ?_, ?_, by rw [e5]; exact i7⟩, .inr (.inl ⟨?_, by omega, fun h => by unfold exh; rw [e1, e2]; exact h, fun v hv => ⟨by rw [e3, fup_n hv], cpW_c (by rw [e3, fup_n hv]) (by rw [e4]), lfW_c (by rw [e3, fup_n hv]) (by rw [e4]) fun _ => by rw [e6]⟩, fun h => absurd (by rw [e3, fup_s]) h⟩)⟩
  · intro v
    rw [e3]
    by_cases e : v = w
    · subst e; rw [fup_s]; omega
    · rw [fup_n e]; exact i3 v
  · intro v
    rw [e3, e4, e7]
    by_cases e : v = w
    · subst e; rw [fup_s]; omega
    · rw [fup_n e]
      intro hv
      rw [fup_n (hne v e hv)]
      exact i4 v hv
  · intro v
    rw [e3, e4]
    by_cases e : v = w
    · subst e; rw [fup_s]; omega
    · rw [fup_n e]; exact i5 v
  · intro v u
    rw [e3, e4]
    by_cases e : v = w
    · subst e; rw [fup_s]; omega
    · by_cases e2 : u = w
      · subst e2; rw [fup_n e, fup_s]; omega
      · rw [fup_n e, fup_n e2]; exact i6 v u
  · unfold psi
    rw [a2, e1, e2]
    omega
theorem doA_p {B : BkS} {T : TbS} {c : Nat} {A A' : AtS} (h : doA B T c A = (none, A')) : A.p + 1 ≤ A'.p := by
  unfold doA at h
  split at h
  · cases hr : readA T c (B.lf (c * 12 + A.p)) (lfA (B.vl (c * 12 + A.p) + A.rg (B.rt (c * 12 + A.p)))) A with
    | mk o A1 =>
      rw [hr] at h
      cases o with
      | some j => cases h
      | none =>
        have h2 := (Prod.mk.inj h).2
        rw [← h2]
        have h3 : A1.p = A.p := by
          have : A1 = (readA T c (B.lf (c * 12 + A.p)) (lfA (B.vl (c * 12 + A.p) + A.rg (B.rt (c * 12 + A.p)))) A).2 := by rw [hr]
          rw [this]
          unfold readA
          repeat' split
          all_goals rfl
        show A.p + 1 ≤ A1.p + 1
        rw [h3]
        exact Nat.le_refl _
  · rw [← (Prod.mk.inj h).2]
    unfold perfA finA
    repeat' split
    all_goals dsimp only [mkAtS_p, mkAtS_fl, mkAtS_rg, mkAtS_wb, mkAtS_wv, mkAtS_kn, mkAtS_kl, mkAtS_kw, mkAtS_kr, mkAtS_kv, mkAtS_en, mkAtS_ev]
    all_goals omega
theorem actS_ok {B : BkS} {bd sz G w : Nat} {S : RnS} {A : AtS} (hI : TI B bd S) (hw : w < sz) (h1 : S.tk w = 1) (hp : (S.am (S.tc w)).p + 1 ≤ A.p) : TI B bd (actS S (S.tc w) A) ∧ (∀ v, v ≠ w → lfW B (actS S (S.tc w) A) v = lfW B S v) ∧ (∀ v, cpW B (actS S (S.tc w) A) v = cpW B S v) ∧ lfW B (actS S (S.tc w) A) w ≤ lfW B S w ∧ psi B sz G (actS S (S.tc w) A) ≤ psi B sz G S ∧ (A.p < B.ac (S.tc w) → lfW B (actS S (S.tc w) A) w + 1 ≤ lfW B S w ∧ psi B sz G (actS S (S.tc w) A) + 1 ≤ psi B sz G S) := by
  obtain ⟨i1, i2, i3, i4, i5, i6, i7⟩ := hI
  have hne : ∀ v, v ≠ w → S.tk v = 1 → S.tc v ≠ S.tc w := fun v hn hv e => hn (i6 v w hv h1 e)
  have b1 : ∀ v, v ≠ w → lfW B (actS S (S.tc w) A) v = lfW B S v := fun v hv => lfW_c rfl rfl fun h => fup_n (hne v hv h)
  have b2 : lfW B (actS S (S.tc w) A) w = B.ac (S.tc w) - A.p + 1 := by
    rw [lfW_1 (S := actS S (S.tc w) A) h1]
    show B.ac (S.tc w) - (fup S.am (S.tc w) A (S.tc w)).p + 1 = _
    rw [fup_s]
  have b3 := lfW_1 (B := B) h1
  have a1 : sumN (lfW B (actS S (S.tc w) A)) sz + lfW B S w ≤ sumN (lfW B S) sz + lfW B (actS S (S.tc w) A) w := sumN_up hw fun i _ hn => Nat.le_of_eq (b1 i hn)
  have a2 : sumN (pcC B G (actS S (S.tc w) A)) B.n = sumN (pcC B G S) B.n := rfl
  refine ⟨⟨i1, i2, i3, i4, i5, i6, i7⟩, b1, fun v => rfl, by omega, ?_, fun hq => ⟨by omega, ?_⟩⟩
  · unfold psi
    rw [a2]
    show _ - sumN _ S.rr + 2 * (B.n - S.lr) + _ + _ ≤ _
    omega
  · unfold psi
    rw [a2]
    show _ - sumN _ S.rr + 2 * (B.n - S.lr) + _ + _ + 1 ≤ _
    omega
theorem pcC_end {B : BkS} {G : Nat} {S S' : RnS} {c : Nat} (h1 : S'.nm c = S.nm c) (hn : S.nm c < 100) (h2 : S'.hw c = 2) (h3 : S.hw c ≠ 2) : pcC B G S' c + (3 * B.n + sumN (fun c => B.ac c + 1) B.n + G * (B.ac c + 1)) = pcC B G S c := by
  unfold pcC eL
  rw [h1, if_pos h2, if_neg h3]
  have e : 100 - S.nm c - 0 = (100 - S.nm c - 1) + 1 := by omega
  rw [e, Nat.succ_mul (100 - S.nm c - 1)]
  omega
theorem pcC_undo {B : BkS} {G : Nat} {S S' : RnS} {c : Nat} (h1 : S'.nm c = S.nm c + 1) (hn : S.nm c < 100) (h2 : S'.hw c ≠ 2) (h3 : S.hw c = 2) : pcC B G S' c + (2 * B.n + G + (B.ac c + 1)) = pcC B G S c := by
  unfold pcC eL
  rw [h1, if_pos h3, if_neg h2]
  have e : 100 - S.nm c = (100 - (S.nm c + 1)) + 1 := by omega
  have e2 : 100 - (S.nm c + 1) - 0 = 100 - S.nm c - 1 := by omega
  rw [e2]
  rw [show (100 - S.nm c) * (2 * B.n + G + (B.ac c + 1)) = (100 - (S.nm c + 1)) * (2 * B.n + G + (B.ac c + 1)) + (2 * B.n + G + (B.ac c + 1)) by rw [e, Nat.succ_mul]]
  omega
theorem ac2 {B : BkS} : sumN (fun c => B.ac c + 2) B.n = sumN (fun c => B.ac c + 1) B.n + B.n := by
  have := sumN_add (f := fun c => B.ac c + 1) (g := fun _ => 1) B.n
  rw [sumN_const, Nat.mul_one] at this
  exact this
/-- an END, before what is done with the look row -/
theorem end1_ok {B : BkS} {bd sz G w : Nat} {S : RnS} (hI : TI B bd S) (hb : bd ≤ 100) (hw : w < sz) (h1 : S.tk w = 1) : TI B bd (end1S S w (S.tc w) B.n) ∧ (end1S S w (S.tc w) B.n).tk w = 0 ∧ psi B sz G (end1S S w (S.tc w) B.n) + 1 + G * cpW B S w + 2 * B.n ≤ psi B sz G S := by
  obtain ⟨i1, i2, i3, i4, i5, i6, i7⟩ := hI
  have hne : ∀ v, v ≠ w → S.tk v = 1 → S.tc v ≠ S.tc w := fun v hn hv e => hn (i6 v w hv h1 e)
  have hrr : (end1S S w (S.tc w) B.n).rr ≤ S.rr := wakeR_le _ _
  have hh : ∀ i, (end1S S w (S.tc w) B.n).hw i = if i < B.n ∧ wokeS (mkRnS (pubT S.T (S.tc w) (S.am (S.tc w)) (S.nm (S.tc w))) S.am S.bg S.dd S.da S.al (fup S.hw (S.tc w) 2) S.aw S.nm (fup S.tk w 0) S.tc S.tn S.rr S.lr S.fe S.lk S.ud S.gu S.cn S.cc S.co) (S.tc w) i then 0 else fup S.hw (S.tc w) 2 i := fun i => rfl
  have hwk : ∀ i, wokeS (mkRnS (pubT S.T (S.tc w) (S.am (S.tc w)) (S.nm (S.tc w))) S.am S.bg S.dd S.da S.al (fup S.hw (S.tc w) 2) S.aw S.nm (fup S.tk w 0) S.tc S.tn S.rr S.lr S.fe S.lk S.ud S.gu S.cn S.cc S.co) (S.tc w) i → i ≠ S.tc w ∧ S.hw i = 3 := fun i ⟨z, _⟩ => by
    have z' : fup S.hw (S.tc w) 2 i = 3 := z
    by_cases e : i = S.tc w
    · rw [e, fup_s] at z'; omega
    · rw [fup_n e] at z'; exact ⟨e, z'⟩
  have a1 : sumN (lfW B (end1S S w (S.tc w) B.n)) sz + lfW B S w ≤ sumN (lfW B S) sz + lfW B (end1S S w (S.tc w) B.n) w := sumN_up hw fun i _ hn => Nat.le_of_eq (lfW_c (fup_n hn) rfl fun _ => rfl)
  rw [lfW_0 (S := end1S S w (S.tc w) B.n) fup_s, lfW_1 h1] at a1
  have hc := (i4 w h1).1
  have hc2 := (i4 w h1).2
  have a2 : sumN (pcC B G (end1S S w (S.tc w) B.n)) B.n + pcC B G S (S.tc w) ≤ sumN (pcC B G S) B.n + pcC B G (end1S S w (S.tc w) B.n) (S.tc w) := sumN_up hc fun i _ hn => Nat.le_of_eq (pcC_c rfl (by
    rw [hh]
    split
    · rename_i hz
      have := (hwk i hz.2).2
      omega
    · rw [fup_n hn]))
  have a3 : pcC B G (end1S S w (S.tc w) B.n) (S.tc w) + (3 * B.n + sumN (fun c => B.ac c + 1) B.n + G * (B.ac (S.tc w) + 1)) = pcC B G S (S.tc w) := pcC_end rfl (Nat.lt_of_lt_of_le (i7 _) hb) (by
    rw [hh, if_neg fun hz => (hwk _ hz.2).1 rfl, fup_s]) (by omega)
  refine ⟨⟨Nat.le_trans hrr i1, i2, ?_, ?_, ?_, ?_, i7⟩, fup_s, ?_⟩
  · intro v
    show fup S.tk w 0 v ≤ 2
    by_cases e : v = w
    · subst e; rw [fup_s]; omega
    · rw [fup_n e]; exact i3 v
  · intro v
    show fup S.tk w 0 v = 1 → S.tc v < B.n ∧ _
    by_cases e : v = w
    · subst e; rw [fup_s]; omega
    · rw [fup_n e]
      intro hv
      refine ⟨(i4 v hv).1, ?_⟩
      rw [show (end1S S w (S.tc w) B.n).tc v = S.tc v from rfl, hh, if_neg fun hz => by have := (hwk _ hz.2).2; have := (i4 v hv).2; omega, fup_n (hne v e hv)]
      exact (i4 v hv).2
  · intro v
    show fup S.tk w 0 v = 2 → S.tc v < B.n
    by_cases e : v = w
    · subst e; rw [fup_s]; omega
    · rw [fup_n e]; exact i5 v
  · intro v u
    show fup S.tk w 0 v = 1 → fup S.tk w 0 u = 1 → S.tc v = S.tc u → v = u
    by_cases e : v = w
    · subst e; rw [fup_s]; omega
    · by_cases e2 : u = w
      · subst e2; rw [fup_n e, fup_s]; omega
      · rw [fup_n e, fup_n e2]; exact i6 v u
  · rw [cpW_1 h1]
    have a4 := ac2 (B := B)
    unfold psi
    show _ - sumN _ (end1S S w (S.tc w) B.n).rr + 2 * (B.n - S.lr) + _ + _ + 1 + _ + _ ≤ _
    have a5 : sumN (fun c => B.ac c + 2) S.rr ≤ sumN (fun c => B.ac c + 2) B.n := sumN_mono i1
    omega
theorem set_lr {B : BkS} {bd sz G r : Nat} {S : RnS} (hI : TI B bd S) (hr : r ≤ B.n) : TI B bd (mkRnS S.T S.am S.bg S.dd S.da S.al S.hw S.aw S.nm S.tk S.tc S.tn S.rr (r) S.fe S.lk S.ud S.gu S.cn S.cc S.co) ∧ psi B sz G (mkRnS S.T S.am S.bg S.dd S.da S.al S.hw S.aw S.nm S.tk S.tc S.tn S.rr (r) S.fe S.lk S.ud S.gu S.cn S.cc S.co) ≤ psi B sz G S + 2 * B.n := by
  obtain ⟨i1, i2, i3, i4, i5, i6, i7⟩ := hI
  refine ⟨⟨i1, hr, i3, i4, i5, i6, i7⟩, ?_⟩
  have a1 : sumN (lfW B (mkRnS S.T S.am S.bg S.dd S.da S.al S.hw S.aw S.nm S.tk S.tc S.tn S.rr (r) S.fe S.lk S.ud S.gu S.cn S.cc S.co)) sz = sumN (lfW B S) sz := rfl
  have a2 : sumN (pcC B G (mkRnS S.T S.am S.bg S.dd S.da S.al S.hw S.aw S.nm S.tk S.tc S.tn S.rr (r) S.fe S.lk S.ud S.gu S.cn S.cc S.co)) B.n = sumN (pcC B G S) B.n := rfl
  unfold psi
  rw [a1, a2]
  show _ - sumN _ S.rr + 2 * (B.n - r) + _ + _ ≤ _
  omega
theorem to_look {B : BkS} {bd sz G w c : Nat} {S : RnS} (hI : TI B bd S) (hw : w < sz) (h0 : S.tk w = 0) (hc : c < B.n) : TI B bd (toLookS S w c) ∧ psi B sz G (toLookS S w c) ≤ psi B sz G S + 1 := by
  obtain ⟨i1, i2, i3, i4, i5, i6, i7⟩ := hI
  constructor
  · refine ⟨i1, i2, ?_, ?_, ?_, ?_, i7⟩
    all_goals dsimp only [toLookS, mkRnS_T, mkRnS_am, mkRnS_bg, mkRnS_dd, mkRnS_da, mkRnS_al, mkRnS_hw, mkRnS_aw, mkRnS_nm, mkRnS_tk, mkRnS_tc, mkRnS_tn, mkRnS_rr, mkRnS_lr, mkRnS_fe, mkRnS_lk, mkRnS_ud, mkRnS_gu, mkRnS_cn, mkRnS_cc, mkRnS_co]
    · intro v
      by_cases e : v = w
      · subst e; rw [fup_s]; omega
      · rw [fup_n e]; exact i3 v
    · intro v
      by_cases e : v = w
      · subst e; rw [fup_s]; omega
      · rw [fup_n e, fup_n e]; exact i4 v
    · intro v
      by_cases e : v = w
      · subst e; rw [fup_s, fup_s]; exact fun _ => hc
      · rw [fup_n e, fup_n e]; exact i5 v
    · intro v u h1 h2 h3
      by_cases e : v = w
      · subst e; rw [fup_s] at h1; omega
      · by_cases e2 : u = w
        · subst e2; rw [fup_s] at h2; omega
        · rw [fup_n e] at h1 h3
          rw [fup_n e2] at h2 h3
          exact i6 v u h1 h2 h3
  · unfold psi
    have a1 : sumN (lfW B (toLookS S w c)) sz + lfW B S w ≤ sumN (lfW B S) sz + lfW B (toLookS S w c) w := sumN_up hw fun i _ hn => Nat.le_of_eq (lfW_c (fup_n hn) (fup_n hn) fun _ => rfl)
    rw [lfW_0 h0, lfW_2 (S := toLookS _ _ _) fup_s] at a1
    have a2 : sumN (pcC B G (toLookS S w c)) B.n = sumN (pcC B G S) B.n := sumN_congr fun i _ => pcC_c rfl Iff.rfl
    rw [a2]
    show _ - sumN _ S.rr + 2 * (B.n - S.lr) + _ + _ ≤ _
    omega
theorem end_ok {B : BkS} {bd sz G w : Nat} {S : RnS} (hI : TI B bd S) (hb : bd ≤ 100) (hw : w < sz) (h1 : S.tk w = 1) : TI B bd (endS B S w (S.tc w)) ∧ psi B sz G (endS B S w (S.tc w)) + 1 + G * cpW B S w ≤ psi B sz G S := by
  obtain ⟨j1, j2, j3⟩ := end1_ok (G := G) hI hb hw h1
  have hc := (hI.rn w h1).1
  unfold endS
  split
  · split
    · have := set_lr (sz := sz) (G := G) (r := S.tc w) j1 (by omega)
      exact ⟨this.1, by have := this.2; omega⟩
    · have := to_look (G := G) j1 hw j2 hc
      exact ⟨this.1, by have := this.2; omega⟩
  · exact ⟨j1, by omega⟩
theorem clr_ok {B : BkS} {bd sz G w : Nat} {S S' : RnS} (hI : TI B bd S) (hw : w < sz) (h2 : S.tk w = 2) (e1 : S'.rr = S.rr) (e2 : S'.lr = S.lr) (e3 : S'.tk = fup S.tk w 0) (e4 : S'.tc = S.tc) (e5 : S'.nm = S.nm) (e6 : S'.am = S.am) (e7 : S'.hw = S.hw) : TI B bd S' ∧ psi B sz G S' + 1 ≤ psi B sz G S ∧ S'.tk w = 0 := by
  obtain ⟨i1, i2, i3, i4, i5, i6, i7⟩ := hI
  have a1 : sumN (lfW B S') sz + lfW B S w ≤ sumN (lfW B S) sz + lfW B S' w := sumN_up hw fun i _ hn => Nat.le_of_eq (lfW_c (by rw [e3, fup_n hn]) (by rw [e4]) fun hv => by rw [e6])
  have a2 : sumN (pcC B G S') B.n = sumN (pcC B G S) B.n := sumN_congr fun i _ => pcC_c (by rw [e5]) (by rw [e7])
  rw [lfW_0 (S := S') (by rw [e3, fup_s]), lfW_2 h2] at a1
  refine ⟨⟨by rw [e1]; exact i1, by rw [e2]; exact i2, ?_, ?_, ?_, ?_, by rw [e5]; exact i7⟩, ?_, by rw [e3, fup_s]⟩
  · intro v
    rw [e3]
    by_cases e : v = w
    · subst e; rw [fup_s]; omega
    · rw [fup_n e]; exact i3 v
  · intro v
    rw [e3, e4, e7]
    by_cases e : v = w
    · subst e; rw [fup_s]; omega
    · rw [fup_n e]
      exact i4 v
  · intro v
    rw [e3, e4]
    by_cases e : v = w
    · subst e; rw [fup_s]; omega
    · rw [fup_n e]; exact i5 v
  · intro v u
    rw [e3, e4]
    by_cases e : v = w
    · subst e; rw [fup_s]; omega
    · by_cases e2 : u = w
      · subst e2; rw [fup_n e, fup_s]; omega
      · rw [fup_n e, fup_n e2]; exact i6 v u
  · unfold psi
    rw [a2, e1, e2]
    omega
theorem undo_ok {B : BkS} {bd sz G c : Nat} {S : RnS} (hI : TI B bd S) (hb : bd ≤ 100) (hc : c < B.n) (h2 : S.hw c = 2) (hf : (undoS bd S c).fe = false) : TI B bd (undoS bd S c) ∧ psi B sz G (undoS bd S c) + G + (B.ac c + 1) ≤ psi B sz G S := by
  obtain ⟨i1, i2, i3, i4, i5, i6, i7⟩ := hI
  have hf2 : ¬ bd ≤ S.nm c + 1 := of_decide_eq_false hf
  have hne : ∀ v, S.tk v = 1 → S.tc v ≠ c := fun v hv e => by
    have := (i4 v hv).2
    rw [e, h2] at this
    cases this
  have a1 : sumN (lfW B (undoS bd S c)) sz = sumN (lfW B S) sz := rfl
  have a2 : sumN (pcC B G (undoS bd S c)) B.n + pcC B G S c ≤ sumN (pcC B G S) B.n + pcC B G (undoS bd S c) c := sumN_up hc fun i _ hn => Nat.le_of_eq (pcC_c (fup_n hn) (by
    show fup S.hw c 0 i = 2 ↔ _
    rw [fup_n hn]))
  have a3 : pcC B G (undoS bd S c) c + (2 * B.n + G + (B.ac c + 1)) = pcC B G S c := pcC_undo fup_s (Nat.lt_of_lt_of_le (i7 _) hb) (by
    show fup S.hw c 0 c ≠ 2
    rw [fup_s]; omega) h2
  have hl : (undoS bd S c).lr ≤ B.n := by
    show (if bd ≤ S.nm c + 1 then S.lr else min S.lr (c + 1)) ≤ B.n
    rw [if_neg hf2]
    omega
  refine ⟨⟨i1, hl, i3, ?_, i5, i6, ?_⟩, ?_⟩
  · intro v hv
    refine ⟨(i4 v hv).1, ?_⟩
    show fup S.hw c 0 (S.tc v) = 1
    rw [fup_n (hne v hv)]
    exact (i4 v hv).2
  · intro i
    show fup S.nm c (S.nm c + 1) i < bd
    by_cases e : i = c
    · subst e; rw [fup_s]; omega
    · rw [fup_n e]; exact i7 i
  · unfold psi
    rw [a1]
    show _ - sumN _ S.rr + 2 * (B.n - (undoS bd S c).lr) + _ + _ + G + _ ≤ _
    omega
theorem redo_fe {bd w c : Nat} {S : RnS} (h : (redoS bd S w c).fe = false) : (undoS bd S c).fe = false := by
  unfold redoS at h
  split at h
  · exact h
  · exact h
theorem step_ok {B : BkS} {bd sz G w : Nat} {S : RnS} (hI : TI B bd S) (hb : bd ≤ 100) (hw : w < sz) (hf : (stepS B bd S w).fe = false) : TI B bd (stepS B bd S w) ∧ Turn B sz G w S (stepS B bd S w) := by
  unfold stepS at hf ⊢
  by_cases h1 : S.tk w = 1
  · rw [if_pos h1]
    unfold runS
    split
    · have := end_ok (G := G) hI hb hw h1
      exact ⟨this.1, .inr (.inr (.inr ⟨this.2, by omega⟩))⟩
    · split
      · exact run_idle hI hw h1 rfl rfl rfl rfl rfl rfl rfl
      · rename_i A hd
        obtain ⟨k1, k2, k3, k4, k5, k6⟩ := actS_ok (G := G) hI hw h1 (doA_p hd)
        split
        · have := end_ok (S := actS S (S.tc w) A) (G := G) k1 hb hw h1
          refine ⟨this.1, .inr (.inr (.inr ⟨?_, by omega⟩))⟩
          have h9 := this.2
          rw [k3] at h9
          exact Nat.le_trans h9 k5
        · rename_i ho
          have hp : A.p < B.ac (S.tc w) := Nat.lt_of_not_le fun z => ho (.inr z)
          exact ⟨k1, .inr (.inl ⟨(k6 hp).2, by omega, fun z => z, fun v hv => ⟨rfl, k3 v, k2 v hv⟩, fun _ => ⟨k3 w, (k6 hp).1⟩⟩)⟩
  · rw [if_neg h1] at hf ⊢
    by_cases h2 : S.tk w = 2
    · rw [if_pos h2] at hf ⊢
      have hclr : ∀ S' : RnS, S'.rr = S.rr → S'.lr = S.lr → S'.tk = fup S.tk w 0 → S'.tc = S.tc → S'.nm = S.nm → S'.am = S.am → S'.hw = S.hw → TI B bd S' ∧ Turn B sz G w S S' := by
        intro S' e1 e2 e3 e4 e5 e6 e7
        obtain ⟨k1, k2, k3⟩ := clr_ok (sz := sz) (G := G) hI hw h2 e1 e2 e3 e4 e5 e6 e7
        exact ⟨k1, .inr (.inl ⟨k2, by omega, fun h => by unfold exh; rw [e1, e2]; exact h, fun v hv => ⟨by rw [e3, fup_n hv], cpW_c (by rw [e3, fup_n hv]) (by rw [e4]), lfW_c (by rw [e3, fup_n hv]) (by rw [e4]) fun _ => by rw [e6]⟩, fun h => absurd k3 h⟩)⟩
      unfold lookS at hf ⊢
      split at hf
      · rename_i hc
        rw [if_pos hc]
        split at hf
        · exact hclr _ rfl rfl rfl rfl rfl rfl rfl
        · rename_i i hi
          have hf1 := redo_fe hf
          obtain ⟨S1, hS⟩ : ∃ S1, S1 = noteS (mkRnS S.T S.am S.bg S.dd S.da S.al S.hw S.aw S.nm (fup S.tk w 0) S.tc S.tn S.rr S.lr S.fe (S.lk + 1) S.ud S.gu S.cn S.cc S.co) (S.tc w) (wbT S.T ((S.am (S.tc w)).kl i) (S.tc w)) := ⟨_, rfl⟩
          rw [← hS] at hf1 ⊢
          have hh : S1.hw = S.hw := by rw [hS]; rfl
          obtain ⟨k1, k2, k3⟩ := clr_ok (S := S) (S' := S1) (sz := sz) (G := G) hI hw h2 (by rw [hS]; rfl) (by rw [hS]; rfl) (by rw [hS]; rfl) (by rw [hS]; rfl) (by rw [hS]; rfl) (by rw [hS]; rfl) hh
          obtain ⟨u1, u2⟩ := undo_ok (sz := sz) (G := G) (c := S.tc w) k1 hb (hI.lc w h2) (by rw [hh]; exact hc.1) hf1
          unfold redoS
          have c2 := cpW_2 (B := B) h2
          split
          · have r := to_run (sz := sz) (G := G) (w := w) (c := S.tc w) u1 hw k3 (hI.lc w h2) fup_s
            exact ⟨r.1, .inr (.inr (.inr ⟨by rw [c2]; have := r.2; omega, by omega⟩))⟩
          · exact ⟨u1, .inr (.inr (.inr ⟨by rw [c2]; omega, by omega⟩))⟩
      · rename_i hc
        rw [if_neg hc]
        exact hclr _ rfl rfl rfl rfl rfl rfl rfl
    · rw [if_neg h2] at hf ⊢
      have h0 : S.tk w = 0 := by have := hI.tk w; omega
      have i1 := hI.rr
      have i2 := hI.lr
      unfold takeS
      split
      · have nx : ¬ exh B S := fun z => by have := z.2; omega
        split
        · have := take_look (sz := sz) (G := G) hI hw h0 (by assumption)
          exact ⟨this.1, .inr (.inr (.inl ⟨this.2, nx⟩))⟩
        · have := take_lr (sz := sz) (G := G) hI (by assumption)
          exact ⟨this.1, .inr (.inr (.inl ⟨this.2, nx⟩))⟩
      · split
        · have nx : ¬ exh B S := fun z => by have := z.1; omega
          obtain ⟨k1, k2⟩ := take_rr (sz := sz) (G := G) hI (by assumption)
          split
          · have r := to_run (S := (mkRnS S.T S.am S.bg S.dd S.da S.al S.hw S.aw S.nm S.tk S.tc S.tn (S.rr + 1) S.lr S.fe S.lk S.ud S.gu S.cn S.cc S.co)) (sz := sz) (G := G) (w := w) (c := S.rr) k1 hw h0 (by assumption) (by assumption)
            exact ⟨r.1, .inr (.inr (.inl ⟨by have := r.2; omega, nx⟩))⟩
          · exact ⟨k1, .inr (.inr (.inl ⟨by omega, nx⟩))⟩
        · exact ⟨hI, .inl ⟨rfl, ⟨by omega, by omega⟩, h0⟩⟩
def itS (B : BkS) (bd : Nat) (pk : Nat → Nat) (S : RnS) : Nat → RnS
  | 0 => S
  | t + 1 => stepS B bd (itS B bd pk S t) (pk t)
abbrev Fair (pk : Nat → Nat) (sz G : Nat) : Prop := (∀ t, pk t < sz) ∧ ∀ t v, v < sz → ∃ r, r < G ∧ pk (t + r) = v
theorem busy_lf {B : BkS} {bd v : Nat} {S : RnS} (hI : TI B bd S) (h : S.tk v ≠ 0) : 1 ≤ lfW B S v := by
  have := hI.tk v
  by_cases h1 : S.tk v = 1
  · rw [lfW_1 h1]; omega
  · rw [lfW_2 (by omega)]; omega
theorem busy_new {B : BkS} {bd v sz G t : Nat} {S : RnS} {pk : Nat → Nat} (hF : Fair pk sz G) (hv : v < sz) (hI : TI B bd S) (h : S.tk v ≠ 0) : ∃ r, r < G ∧ pk (t + r) = v ∧ 0 + G * (lfW B S v - 1) + r + 1 ≤ G * cpW B S v := by
  obtain ⟨r, hr, e⟩ := hF.2 t v hv
  refine ⟨r, hr, e, ?_⟩
  have h1 := busy_lf hI h
  have h2 : G * lfW B S v ≤ G * cpW B S v := Nat.mul_le_mul (Nat.le_refl _) lfW_le
  have h3 : G * lfW B S v = G * (lfW B S v - 1) + G := by
    rw [← Nat.mul_succ]
    congr 1
    omega
  omega
theorem turns_inv {B : BkS} {bd sz G : Nat} {S : RnS} {pk : Nat → Nat} (hI : TI B bd S) (hb : bd ≤ 100) (hF : Fair pk sz G) : ∀ t, (∀ i, i ≤ t → (itS B bd pk S i).fe = false) → TI B bd (itS B bd pk S t) ∧ ∃ D, t + psi B sz G (itS B bd pk S t) ≤ psi B sz G S + D ∧ (D = 0 ∨ exh B (itS B bd pk S t)) ∧ ∀ v, v < sz → (itS B bd pk S t).tk v ≠ 0 → ∃ r, r < G ∧ pk (t + r) = v ∧ D + G * (lfW B (itS B bd pk S t) v - 1) + r + 1 ≤ G * cpW B (itS B bd pk S t) v
  | 0, _ => ⟨hI, 0, by show 0 + psi B sz G S ≤ _; omega, .inl rfl, fun v hv h => busy_new hF hv hI h⟩
  | t + 1, hf => by
    obtain ⟨kI, D, kD, kx, kb⟩ := turns_inv hI hb hF t fun i hi => hf i (by omega)
    have hf1 := hf (t + 1) (Nat.le_refl _)
    have e0 : itS B bd pk S (t + 1) = stepS B bd (itS B bd pk S t) (pk t) := rfl
    rw [e0] at hf1 ⊢
    generalize itS B bd pk S t = U at kI kD kx kb hf1 ⊢
    obtain ⟨jI, jT⟩ := step_ok (G := G) kI hb (hF.1 t) hf1
    generalize stepS B bd U (pk t) = V at jI jT hf1 ⊢
    refine ⟨jI, ?_⟩
    rcases jT with ⟨e, ex, e0⟩ | ⟨p1, nz, ex, ev, ew⟩ | ⟨p1, nx⟩ | ⟨p1, nz⟩
    · subst e
      refine ⟨D + 1, by omega, .inr ex, fun v hv h => ?_⟩
      obtain ⟨r, hr, er, hb⟩ := kb v hv h
      have hr0 : r ≠ 0 := fun z => by
        subst z
        rw [Nat.add_zero] at er
        rw [er] at e0
        exact h e0
      exact ⟨r - 1, by omega, by rw [← er]; congr 1; omega, by omega⟩
    · rcases kx with k0 | kx
      · subst k0
        exact ⟨0, by omega, .inl rfl, fun v hv h => busy_new hF hv jI h⟩
      · refine ⟨D, by omega, .inr (ex kx), fun v hv h => ?_⟩
        by_cases e : v = pk t
        · subst e
          obtain ⟨w1, w2⟩ := ew h
          obtain ⟨r, hr, er, hb⟩ := kb (pk t) hv nz
          obtain ⟨r', hr', er'⟩ := hF.2 (t + 1) (pk t) hv
          refine ⟨r', hr', er', ?_⟩
          rw [w1]
          have h1 := busy_lf jI h
          have h3 : G * (lfW B V (pk t) - 1) + G ≤ G * (lfW B U (pk t) - 1) := by
            rw [← Nat.mul_succ]
            exact Nat.mul_le_mul (Nat.le_refl _) (by omega)
          omega
        · obtain ⟨v1, v2, v3⟩ := ev v e
          obtain ⟨r, hr, er, hb⟩ := kb v hv (by rw [← v1]; exact h)
          have hr0 : r ≠ 0 := fun z => by
            subst z
            rw [Nat.add_zero] at er
            exact e er.symm
          refine ⟨r - 1, by omega, by rw [← er]; congr 1; omega, ?_⟩
          rw [v2, v3]
          omega
    · rcases kx with k0 | kx
      · subst k0
        exact ⟨0, by omega, .inl rfl, fun v hv h => busy_new hF hv jI h⟩
      · exact absurd kx nx
    · obtain ⟨r, hr, er, hb⟩ := kb (pk t) (hF.1 t) nz
      exact ⟨0, by omega, .inl rfl, fun v hv h => busy_new hF hv jI h⟩
theorem turns_le {B : BkS} {bd sz G : Nat} {S : RnS} {pk : Nat → Nat} (hB : BkOK B) (hI : TI B bd S) (hb : bd ≤ 100) (hF : Fair pk sz G) {t : Nat} (hf : ∀ i, i ≤ t → (itS B bd pk S i).fe = false) (hd : ¬ doneS B sz (itS B bd pk S t)) : t ≤ psi B sz G S + 13 * G := by
  obtain ⟨kI, D, kD, kx, kb⟩ := turns_inv hI hb hF t hf
  rcases kx with k0 | kx
  · omega
  · have : ∃ v, v < sz ∧ (itS B bd pk S t).tk v ≠ 0 := by
      apply Classical.byContradiction
      intro hn
      exact hd ⟨kx.1, kx.2, fun w hw => Classical.byContradiction fun h => hn ⟨w, hw, h⟩⟩
    obtain ⟨v, hv, hz⟩ := this
    obtain ⟨r, hr, er, hb⟩ := kb v hv hz
    have hc : cpW B (itS B bd pk S t) v ≤ 13 := by
      have := kI.tk v
      by_cases h1 : (itS B bd pk S t).tk v = 1
      · rw [cpW_1 h1]
        have h2 := hB.ac ((itS B bd pk S t).tc v) (Nat.lt_of_lt_of_le (kI.rn v h1).1 hB.n)
        omega
      · rw [cpW_2 (by omega)]; omega
    have h3 : G * cpW B (itS B bd pk S t) v ≤ G * 13 := Nat.mul_le_mul (Nat.le_refl _) hc
    omega
theorem psi0 {B : BkS} {sz G : Nat} {S : RnS} (hn : B.n + sumN B.ac B.n ≤ 63) (h16 : B.n ≤ 16) (hr : S.rr = 0) (hl : S.lr = 0) (hk : ∀ w, S.tk w = 0) (hm : ∀ c, S.nm c = 0) (hh : ∀ c, S.hw c = 0) : psi B sz G S ≤ 236000 + 7900 * G := by
  have e1 : sumN (lfW B S) sz = 0 := by
    rw [sumN_congr (g := fun _ => 0) fun i _ => lfW_0 (hk i), sumN_const, Nat.mul_zero]
  have e2 : sumN (fun c => B.ac c + 1) B.n = sumN B.ac B.n + B.n := by
    have := sumN_add (f := B.ac) (g := fun _ => 1) B.n
    rw [sumN_const, Nat.mul_one] at this
    exact this
  have e3 : ∀ c, pcC B G S c = 100 * (3 * B.n + sumN (fun c => B.ac c + 1) B.n + 2 * B.n + G) + 100 * ((G + 1) * (B.ac c + 1)) := fun c => by
    unfold pcC eL
    have : (G + 1) * (B.ac c + 1) = G * (B.ac c + 1) + (B.ac c + 1) := Nat.succ_mul _ _
    rw [hm c, hh c, if_neg (by decide)]
    omega
  have e4 : sumN (pcC B G S) B.n = B.n * (100 * (3 * B.n + sumN (fun c => B.ac c + 1) B.n + 2 * B.n + G)) + 100 * ((G + 1) * sumN (fun c => B.ac c + 1) B.n) := by
    rw [sumN_congr fun i _ => e3 i, sumN_add, sumN_const, sumN_mul, sumN_mul]
  have e5 := ac2 (B := B)
  unfold psi
  rw [e1, e4, e5, hr, hl, e2]
  have m1 : B.n * (100 * (3 * B.n + (sumN B.ac B.n + B.n) + 2 * B.n + G)) ≤ 16 * (100 * (3 * 16 + 63 + 2 * 16 + G)) := Nat.mul_le_mul h16 (by omega)
  have m2 : (G + 1) * (sumN B.ac B.n + B.n) ≤ (G + 1) * 63 := Nat.mul_le_mul (Nat.le_refl _) (by omega)
  omega
/-- a run comes to its end within fewer than a million turns -/
theorem turns_end {B : BkS} {bd sz : Nat} {S : RnS} {pk : Nat → Nat} (hB : BkOK B) (hn : B.n + sumN B.ac B.n ≤ 63) (hI : TI B bd S) (hb : bd ≤ 100) (hF : Fair pk sz 61) (hr : S.rr = 0) (hl : S.lr = 0) (hk : ∀ w, S.tk w = 0) (hm : ∀ c, S.nm c = 0) (hh : ∀ c, S.hw c = 0) : ∃ t, t < 1000000 ∧ ((itS B bd pk S t).fe = true ∨ doneS B sz (itS B bd pk S t)) ∧ ∀ i, i < t → (itS B bd pk S i).fe = false ∧ ¬ doneS B sz (itS B bd pk S i) := by
  have hp := psi0 (sz := sz) (G := 61) hn hB.n hr hl hk hm hh
  have key : ∀ m, (∃ t, t < m ∧ ((itS B bd pk S t).fe = true ∨ doneS B sz (itS B bd pk S t)) ∧ ∀ i, i < t → (itS B bd pk S i).fe = false ∧ ¬ doneS B sz (itS B bd pk S i)) ∨ ∀ i, i < m → (itS B bd pk S i).fe = false ∧ ¬ doneS B sz (itS B bd pk S i) := by
    intro m
    induction m with
    | zero => exact .inr fun i hi => absurd hi (Nat.not_lt_zero _)
    | succ m ih =>
      rcases ih with ⟨t, ht, h⟩ | h
      · exact .inl ⟨t, by omega, h⟩
      · by_cases h1 : (itS B bd pk S m).fe = true ∨ doneS B sz (itS B bd pk S m)
        · exact .inl ⟨m, by omega, h1, h⟩
        · refine .inr fun i hi => ?_
          by_cases e : i = m
          · subst e
            exact ⟨by cases hq : (itS B bd pk S i).fe with | false => rfl | true => exact absurd (.inl hq) h1, fun z => h1 (.inr z)⟩
          · exact h i (by omega)
  rcases key 1000000 with h | h
  · exact h
  · have := turns_le (t := 999999) hB hI hb hF (fun i hi => (h i (by omega)).1) (h 999999 (by omega)).2
    omega
