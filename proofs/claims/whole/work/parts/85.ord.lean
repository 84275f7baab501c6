/-! ===== in order ===== -/
def runA (B : BkS) (T : TbS) (c : Nat) : Nat → AtS → AtS × Nat
  | 0, A => (A, 0)
  | f + 1, A => if overA B c A then (A, 0) else ((runA B T c f (doA B T c A).2).1, (runA B T c f (doA B T c A).2).2 + 1)
abbrev nph (T : TbS) (c : Nat) : Prop := ∀ j k, j < c → T.st j k ≠ 2
theorem doA_n {B : BkS} {T : TbS} {c : Nat} {A : AtS} (h : nph T c) : (doA B T c A).1 = none := by
  cases hd : doA B T c A with
  | mk o A' =>
    cases o with
    | none => rfl
    | some j =>
      obtain ⟨_, h1, k, _, h2⟩ := doA_some hd
      exact absurd h2 (h j k h1)
theorem runA_ok {B : BkS} {T : TbS} {c : Nat} (hB : BkOK B) (hc : c < 16) : ∀ f A, AtOK c A → AtOK c (runA B T c f A).1
  | 0, A, h => h
  | f + 1, A, h => by
    unfold runA
    split
    · exact h
    · exact runA_ok hB hc f _ (doA_ok hB hc h (by assumption))
theorem runA_kr {B : BkS} {T : TbS} {c : Nat} (hT : ∀ j k, T.nm j k ≤ 100) : ∀ f A, kr100 A → kr100 (runA B T c f A).1
  | 0, A, h => h
  | f + 1, A, h => by
    unfold runA
    split
    · exact h
    · exact runA_kr hT f _ (kr_doA hT h)
/-- with fuel enough the call is over -/
theorem runA_over {B : BkS} {T : TbS} {c : Nat} (hn : nph T c) : ∀ f A, B.ac c ≤ A.p + f → overA B c (runA B T c f A).1
  | 0, A, h => .inr h
  | f + 1, A, h => by
    unfold runA
    by_cases ho : overA B c A
    · rw [if_pos ho]; exact ho
    · rw [if_neg ho]
      refine runA_over hn f _ ?_
      have h1 := doA_n (B := B) (A := A) hn
      have h2 := doA_p (B := B) (T := T) (c := c) (A := A) (A' := (doA B T c A).2) (by rw [← h1])
      omega
theorem runA_more {B : BkS} {T : TbS} {c : Nat} : ∀ f g A, overA B c (runA B T c f A).1 → runA B T c (f + g) A = runA B T c f A
  | 0, g, A, h => by
    have h' : overA B c A := h
    rw [Nat.zero_add]
    cases g with
    | zero => rfl
    | succ g =>
      unfold runA
      rw [if_pos h']
  | f + 1, g, A, h => by
    rw [Nat.succ_add]
    unfold runA at h ⊢
    by_cases ho : overA B c A
    · rw [if_pos ho, if_pos ho]
    · rw [if_neg ho] at h
      rw [if_neg ho, if_neg ho, runA_more f g _ h]
def tb0 (bf : Nat → Int64) : TbS := mkTbS (fun _ _ => 0) (fun _ _ => 0) (fun _ _ => 0) bf
def ordT (B : BkS) (bf : Nat → Int64) : Nat → TbS
  | 0 => tb0 bf
  | c + 1 => pubT (ordT B bf c) c (runA B (ordT B bf c) c 12 at0).1 0
def ordA (B : BkS) (bf : Nat → Int64) (c : Nat) : AtS := (runA B (ordT B bf c) c 12 at0).1
def ordK (B : BkS) (bf : Nat → Int64) (c : Nat) : Nat := (runA B (ordT B bf c) c 12 at0).2
theorem ordT_s {B : BkS} {bf : Nat → Int64} : ∀ c j k, (ordT B bf c).st j k ≤ 1 ∧ (c ≤ j → (ordT B bf c).st j k = 0) ∧ (ordT B bf c).nm j k = 0 ∧ (ordT B bf c).bf = bf
  | 0, j, k => ⟨Nat.zero_le _, fun _ => rfl, rfl, rfl⟩
  | c + 1, j, k => by
    obtain ⟨h1, h2, h3, h4⟩ := ordT_s (B := B) (bf := bf) c j k
    refine ⟨?_, fun hj => ?_, ?_, h4⟩
    · show (if j = c then (cond (wrA (ordA B bf c) k) 1 0) else (ordT B bf c).st j k) ≤ 1
      split
      · cases wrA (ordA B bf c) k <;> decide
      · exact h1
    · show (if j = c then (cond (wrA (ordA B bf c) k) 1 0) else (ordT B bf c).st j k) = 0
      rw [if_neg (by omega)]
      exact h2 (by omega)
    · show (if j = c ∧ wrA (ordA B bf c) k = true then 0 else (ordT B bf c).nm j k) = 0
      split
      · rfl
      · exact h3
theorem ord_nph {B : BkS} {bf : Nat → Int64} {c d : Nat} : nph (ordT B bf c) d := fun j k _ => by have := (ordT_s (B := B) (bf := bf) c j k).1; omega
/-- the run in order, from the plain machine's state -/
def ordS (B : BkS) (S : RnS) : Nat → RnS
  | 0 => (mkRnS (tb0 S.T.bf) S.am S.bg S.dd S.da S.al S.hw S.aw S.nm S.tk S.tc S.tn S.rr S.lr S.fe S.lk S.ud S.gu S.cn S.cc S.co)
  | c + 1 => (mkRnS (ordT B S.T.bf (c + 1)) (fup (ordS B S c).am c (ordA B S.T.bf c)) (fup (ordS B S c).bg c ((ordS B S c).bg c + 1)) (fup (ordS B S c).dd c (ordK B S.T.bf c)) (fup (ordS B S c).da c ((ordS B S c).da c + ordK B S.T.bf c)) ((ordS B S c).al + ordK B S.T.bf c) (ordS B S c).hw (ordS B S c).aw (ordS B S c).nm (ordS B S c).tk (ordS B S c).tc (ordS B S c).tn (ordS B S c).rr (ordS B S c).lr (ordS B S c).fe (ordS B S c).lk (ordS B S c).ud (ordS B S c).gu (ordS B S c).cn (ordS B S c).cc (ordS B S c).co)
theorem ordS_T {B : BkS} {S : RnS} : ∀ c, (ordS B S c).T = ordT B S.T.bf c
  | 0 => rfl
  | c + 1 => rfl
theorem ordS_o {B : BkS} {S : RnS} : ∀ c, (ordS B S c).hw = S.hw ∧ (ordS B S c).cn = S.cn ∧ (ordS B S c).cc = S.cc ∧ (ordS B S c).co = S.co ∧ (ordS B S c).lk = S.lk ∧ (ordS B S c).ud = S.ud ∧ (ordS B S c).gu = S.gu ∧ (ordS B S c).fe = S.fe ∧ (ordS B S c).rr = S.rr
  | 0 => ⟨rfl, rfl, rfl, rfl, rfl, rfl, rfl, rfl, rfl⟩
  | c + 1 => ordS_o c
theorem ordS_bg {B : BkS} {S : RnS} : ∀ c d, d < c → 1 ≤ (ordS B S c).bg d
  | 0, d, h => absurd h (Nat.not_lt_zero _)
  | c + 1, d, h => by
    show 1 ≤ fup (ordS B S c).bg c ((ordS B S c).bg c + 1) d
    by_cases e : d = c
    · subst e; rw [fup_s]; omega
    · rw [fup_n e]; exact ordS_bg c d (by omega)
/-! what both sides must keep of the table beyond the calls -/
abbrev st0 (n : Nat) (T : TbS) : Prop := ∀ j k, n ≤ j → T.st j k = 0
theorem st0_pub {n c num : Nat} {T : TbS} {A : AtS} (h : st0 n T) (hc : c < n) : st0 n (pubT T c A num) := fun j k hj => by
  show (if j = c then (cond (wrA A k) 1 0) else T.st j k) = 0
  rw [if_neg (by omega)]
  exact h j k hj
theorem st0_dbt {n c : Nat} {T : TbS} (h : st0 n T) (hc : c < n) : st0 n (dbtT T c) := fun j k hj => by
  show (if j = c ∧ T.st c k ≠ 0 then 2 else T.st j k) = 0
  rw [if_neg (by omega)]
  exact h j k hj
theorem endS_T {B : BkS} {S : RnS} {w c : Nat} : (endS B S w c).T = pubT S.T c (S.am c) (S.nm c) ∧ (endS B S w c).am = S.am ∧ (endS B S w c).da = S.da ∧ (endS B S w c).al = S.al ∧ (endS B S w c).cn = S.cn := by
  unfold endS
  split
  · split
    · exact ⟨rfl, rfl, rfl, rfl, rfl⟩
    · exact ⟨rfl, rfl, rfl, rfl, rfl⟩
  · exact ⟨rfl, rfl, rfl, rfl, rfl⟩
/-- what a turn keeps besides: no entry beyond the calls, small numbers of runs kept, the sum of all acts, at most one conflict more -/
abbrev KOK (B : BkS) (S : RnS) : Prop := (st0 B.n S.T) ∧ (∀ c, kr100 (S.am c)) ∧ (S.T.bf = S.T.bf) ∧ (S.al = sumN S.da B.n)
theorem KOK.st {B : BkS} {S : RnS} (h : KOK B S) : st0 B.n S.T := h.1
theorem KOK.kr {B : BkS} {S : RnS} (h : KOK B S) : ∀ c, kr100 (S.am c) := h.2.1
theorem KOK.bf {B : BkS} {S : RnS} (h : KOK B S) : S.T.bf = S.T.bf := h.2.2.1
theorem KOK.da {B : BkS} {S : RnS} (h : KOK B S) : S.al = sumN S.da B.n := h.2.2.2
theorem sumN_fup {f : Nat → Nat} {c v : Nat} : ∀ {n}, c < n → sumN (fup f c v) n + f c = sumN f n + v
  | 0, h => absurd h (Nat.not_lt_zero _)
  | n + 1, h => by
    unfold sumN
    by_cases e : c = n
    · subst e
      rw [fup_s, sumN_congr (g := f) fun i hi => fup_n (Nat.ne_of_lt hi)]
      omega
    · have := sumN_fup (f := f) (v := v) (n := n) (show c < n by omega)
      rw [fup_n (fun z => e z.symm)]
      omega
theorem kok_step {B : BkS} {bd sz w : Nat} {S : RnS} (h : SOK B sz S) (hK : KOK B S) : KOK B (stepS B bd S w) ∧ (stepS B bd S w).T.bf = S.T.bf ∧ (stepS B bd S w).cn ≤ S.cn + 1 := by
  obtain ⟨k1, k2, _, k4⟩ := hK
  have h0 : kr100 at0 := fun i hi => absurd hi (Nat.not_lt_zero _)
  have hrun : ∀ (c : Nat), ∀ d, kr100 (fup S.am c at0 d) := fun c d => by
    by_cases e : d = c
    · subst e; rw [fup_s]; exact h0
    · rw [fup_n e]; exact k2 d
  unfold stepS
  split
  · rename_i h1
    have hc := (h.tc w (by omega)).1
    unfold runS
    split
    · obtain ⟨e1, e2, e3, e4, e5⟩ := endS_T (B := B) (S := S) (w := w) (c := S.tc w)
      refine ⟨⟨by rw [e1]; exact st0_pub k1 hc, by rw [e2]; exact k2, rfl, by rw [e3, e4]; exact k4⟩, by rw [e1]; rfl, by omega⟩
    · split
      · exact ⟨⟨k1, k2, rfl, k4⟩, rfl, Nat.le_refl _⟩
      · rename_i A hd
        have hA : kr100 A := by
          have := kr_doA (B := B) (T := S.T) (c := S.tc w) (A := S.am (S.tc w)) h.tn1 (k2 _)
          rw [hd] at this
          exact this
        have hk : ∀ d, kr100 (fup S.am (S.tc w) A d) := fun d => by
          by_cases e : d = S.tc w
          · subst e; rw [fup_s]; exact hA
          · rw [fup_n e]; exact k2 d
        have hd2 : S.al + 1 = sumN (fup S.da (S.tc w) (S.da (S.tc w) + 1)) B.n := by
          have := sumN_fup (f := S.da) (v := S.da (S.tc w) + 1) hc
          omega
        split
        · obtain ⟨e1, e2, e3, e4, e5⟩ := endS_T (B := B) (S := actS S (S.tc w) A) (w := w) (c := S.tc w)
          refine ⟨⟨by rw [e1]; exact st0_pub k1 hc, by rw [e2]; exact hk, rfl, by rw [e3, e4]; exact hd2⟩, by rw [e1]; rfl, ?_⟩
          rw [e5]
          exact Nat.le_succ _
        · exact ⟨⟨k1, hk, rfl, hd2⟩, rfl, Nat.le_succ _⟩
  · split
    · rename_i h2
      have hc := (h.tc w (by omega)).1
      unfold lookS
      split
      · split
        · exact ⟨⟨k1, k2, rfl, k4⟩, rfl, Nat.le_succ _⟩
        · rename_i i hi
          unfold redoS
          split
          · exact ⟨⟨st0_dbt k1 hc, hrun _, rfl, k4⟩, rfl, Nat.le_refl _⟩
          · exact ⟨⟨st0_dbt k1 hc, k2, rfl, k4⟩, rfl, Nat.le_refl _⟩
      · exact ⟨⟨k1, k2, rfl, k4⟩, rfl, Nat.le_succ _⟩
    · unfold takeS
      split
      · split
        · exact ⟨⟨k1, k2, rfl, k4⟩, rfl, Nat.le_succ _⟩
        · exact ⟨⟨k1, k2, rfl, k4⟩, rfl, Nat.le_succ _⟩
      · split
        · split
          · exact ⟨⟨k1, hrun _, rfl, k4⟩, rfl, Nat.le_succ _⟩
          · exact ⟨⟨k1, k2, rfl, k4⟩, rfl, Nat.le_succ _⟩
        · exact ⟨⟨k1, k2, rfl, k4⟩, rfl, Nat.le_succ _⟩
