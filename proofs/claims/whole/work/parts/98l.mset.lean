/-! ===== the reference's settle: what each loop leaves ===== -/
def sjJ (σ : pST) (c m : Nat) : Nat → Nat → Int64 := fun x y => if x = 1 ∧ y < m ∧ ¬ σ.1 21 (32 * c + y) = 0 then σ.2 23 (32 * c + y) else σ.2 x y
theorem sjJ_0 {σ : pST} {c : Nat} : ((σ.1, sjJ σ c 0) : pST) = σ := by
  refine Prod.ext rfl ?_
  funext x y
  exact if_neg (by omega)
theorem sjJ_t {σ : pST} {c i : Nat} (h : ¬ σ.1 21 (32 * c + i) = 0) : pm_uj (sjJ σ c i) 1 i (σ.2 23 (32 * c + i)) = sjJ σ c (i + 1) := by
  funext x y
  rw [pm_uj_a]
  unfold sjJ
  by_cases e : x = 1 ∧ y = i
  · rw [if_pos e, if_pos ⟨e.1, by omega, by rw [e.2]; exact h⟩, e.2]
  · rw [if_neg e]
    by_cases q : x = 1 ∧ y < i ∧ ¬ σ.1 21 (32 * c + y) = 0
    · rw [if_pos q, if_pos ⟨q.1, by omega, q.2.2⟩]
    · rw [if_neg q, if_neg (fun z => q ⟨z.1, by have := z.2.1; have : y ≠ i := fun w => e ⟨z.1, w⟩; omega, z.2.2⟩)]
theorem sjJ_f {σ : pST} {c i : Nat} (h : σ.1 21 (32 * c + i) = 0) : sjJ σ c i = sjJ σ c (i + 1) := by
  funext x y
  unfold sjJ
  by_cases q : x = 1 ∧ y < i ∧ ¬ σ.1 21 (32 * c + y) = 0
  · rw [if_pos q, if_pos ⟨q.1, by omega, q.2.2⟩]
  · rw [if_neg q, if_neg (fun z => q ⟨z.1, by have := z.2.1; have : y ≠ i := fun w => z.2.2 (by rw [w]; exact h); omega, z.2.2⟩)]
theorem sjJ_o {σ : pST} {c m x : Nat} (h : x ≠ 1) : sjJ σ c m x = σ.2 x := by
  funext y
  exact if_neg (fun z => h z.1)
/-- the events of one call, from place o on -/
def evI (σ : pST) (c o m : Nat) : Nat → Nat → Int32 := fun x y => if x = 35 ∧ o ≤ y ∧ y < o + m then nI c else if x = 0 ∧ y = 50 then nI (o + m) else σ.1 x y
def evJ (σ : pST) (c o m : Nat) : Nat → Nat → Int64 := fun x y => if x = 34 ∧ o ≤ y ∧ y < o + m then σ.2 18 (12 * c + (y - o)) else σ.2 x y
theorem ev_0 {σ : pST} {c o : Nat} (h : σ.1 0 50 = nI o) : ((evI σ c o 0, evJ σ c o 0) : pST) = σ := by
  refine Prod.ext ?_ ?_
  · funext x y
    show (if _ then _ else if _ then _ else _) = _
    rw [if_neg (by omega)]
    by_cases e : x = 0 ∧ y = 50
    · rw [if_pos e, e.1, e.2, h]
      rfl
    · rw [if_neg e]
  · funext x y
    show (if _ then _ else _) = _
    rw [if_neg (by omega)]
theorem ev_s {σ : pST} {c o i : Nat} : ((pm_ui (pm_ui (evI σ c o i) 35 (o + i) (nI c)) 0 50 (nI (o + i + 1)), pm_uj (evJ σ c o i) 34 (o + i) (σ.2 18 (12 * c + i))) : pST) = (evI σ c o (i + 1), evJ σ c o (i + 1)) := by
  refine Prod.ext ?_ ?_
  · funext x y
    show pm_ui (pm_ui (evI σ c o i) 35 (o + i) (nI c)) 0 50 (nI (o + i + 1)) x y = evI σ c o (i + 1) x y
    simp only [pm_ui_a, evI]
    by_cases e : x = 0 ∧ y = 50
    · rw [if_pos e, if_neg (by omega), if_pos e]
      rfl
    · rw [if_neg e, if_neg e]
      by_cases e2 : x = 35 ∧ y = o + i
      · rw [if_pos e2, if_pos ⟨e2.1, by omega, by omega⟩]
      · rw [if_neg e2]
        by_cases q : x = 35 ∧ o ≤ y ∧ y < o + i
        · rw [if_pos q, if_pos ⟨q.1, by omega, by omega⟩]
        · rw [if_neg q, if_neg (by omega), if_neg e]
  · funext x y
    show pm_uj (evJ σ c o i) 34 (o + i) (σ.2 18 (12 * c + i)) x y = evJ σ c o (i + 1) x y
    simp only [pm_uj_a, evJ]
    by_cases e2 : x = 34 ∧ y = o + i
    · rw [if_pos e2, if_pos ⟨e2.1, by omega, by omega⟩, show y - o = i by omega]
    · rw [if_neg e2]
      by_cases q : x = 34 ∧ o ≤ y ∧ y < o + i
      · rw [if_pos q, if_pos ⟨q.1, by omega, by omega⟩]
      · rw [if_neg q, if_neg (by omega)]
def wcM (σ : pST) (c : Nat) : Nat → Nat
  | 0 => 0
  | m + 1 => wcM σ c m + (if wrM σ c m then 1 else 0)
def wcA (A : AtS) : Nat → Nat
  | 0 => 0
  | m + 1 => wcA A m + (cond (wrA A m) 1 0)
theorem wc_eq {σ : pST} {c : Nat} {A : AtS} (h : RMat σ c A) : ∀ m, m ≤ 32 → wcM σ c m = wcA A m
  | 0, _ => rfl
  | m + 1, hm => by
    have q := wrM_iff h (show m < 32 by clear h; omega)
    unfold wcM wcA
    rw [wc_eq h m (by clear h; omega)]
    cases hw : wrA A m with
    | true => rw [if_pos (q.mpr hw)]; rfl
    | false => rw [if_neg (fun z => by rw [q.mp z] at hw; cases hw)]; rfl
def enE (A : AtS) : Nat := cond A.fl 0 A.en
/-- one call settled: its leaves, events and marks -/
def st1 (σ : pST) (c o e : Nat) : pST := (pm_ui (pm_ui (pm_ui (pm_ui (pm_ui (pm_ui (evI (σ.1, sjJ σ c 32) c o e) 36 c (σ.1 9 c)) 37 c (σ.1 12 c)) 38 c (nI (wcM σ c 32))) 39 c (σ.1 20 c)) 40 c (σ.1 19 c)) 31 c (nI c), evJ (σ.1, sjJ σ c 32) c o e)
abbrev untS (x y : Nat) : Prop := x = 1 ∨ (x = 0 ∧ y = 50) ∨ x = 31 ∨ (34 ≤ x ∧ x ≤ 40)
theorem st1_o {σ : pST} {c o e x y : Nat} (h : ¬ untS x y) : (st1 σ c o e).1 x y = σ.1 x y ∧ (st1 σ c o e).2 x y = σ.2 x y := by
  constructor
  · show pm_ui (pm_ui (pm_ui (pm_ui (pm_ui (pm_ui (evI (σ.1, sjJ σ c 32) c o e) 36 c (σ.1 9 c)) 37 c (σ.1 12 c)) 38 c (nI (wcM σ c 32))) 39 c (σ.1 20 c)) 40 c (σ.1 19 c)) 31 c (nI c) x y = σ.1 x y
    rw [ui_o (by omega), ui_o (by omega), ui_o (by omega), ui_o (by omega), ui_o (by omega), ui_o (by omega)]
    unfold evI
    rw [if_neg (by omega), if_neg (by omega)]
  · show evJ (σ.1, sjJ σ c 32) c o e x y = σ.2 x y
    unfold evJ
    rw [if_neg (by omega)]
    exact congrFun (sjJ_o (by omega)) y
abbrev SA (σ0 : pST) (σ : pST) (S : RnS) (c : Nat) : Prop := (∀ x y, ¬ untS x y → σ.1 x y = σ0.1 x y ∧ σ.2 x y = σ0.2 x y) ∧ (∀ k, k < 32 → σ.2 1 k = svT S.T k (wbT S.T k c)) ∧ (σ.1 0 50 = nI (sumN (fun d => enE (S.am d)) c)) ∧ (∀ d e, d < c → e < enE (S.am d) → σ.2 34 (sumN (fun d => enE (S.am d)) d + e) = (S.am d).ev e ∧ σ.1 35 (sumN (fun d => enE (S.am d)) d + e) = nI d) ∧ (∀ d, d < c → σ.1 36 d = cond (S.am d).fl 1 0 ∧ σ.1 37 d = nI (S.am d).kn ∧ σ.1 38 d = nI (wcA (S.am d) 32) ∧ σ.1 39 d = nI (S.dd d) ∧ σ.1 40 d = nI (S.bg d) ∧ σ.1 31 d = nI d)
theorem SA.fr {σ0 : pST} {σ : pST} {S : RnS} {c : Nat} (h : SA σ0 σ S c) : ∀ x y, ¬ untS x y → σ.1 x y = σ0.1 x y ∧ σ.2 x y = σ0.2 x y := h.1
theorem SA.lf {σ0 : pST} {σ : pST} {S : RnS} {c : Nat} (h : SA σ0 σ S c) : ∀ k, k < 32 → σ.2 1 k = svT S.T k (wbT S.T k c) := h.2.1
theorem SA.eo {σ0 : pST} {σ : pST} {S : RnS} {c : Nat} (h : SA σ0 σ S c) : σ.1 0 50 = nI (sumN (fun d => enE (S.am d)) c) := h.2.2.1
theorem SA.ev {σ0 : pST} {σ : pST} {S : RnS} {c : Nat} (h : SA σ0 σ S c) : ∀ d e, d < c → e < enE (S.am d) → σ.2 34 (sumN (fun d => enE (S.am d)) d + e) = (S.am d).ev e ∧ σ.1 35 (sumN (fun d => enE (S.am d)) d + e) = nI d := h.2.2.2.1
theorem SA.of {σ0 : pST} {σ : pST} {S : RnS} {c : Nat} (h : SA σ0 σ S c) : ∀ d, d < c → σ.1 36 d = cond (S.am d).fl 1 0 ∧ σ.1 37 d = nI (S.am d).kn ∧ σ.1 38 d = nI (wcA (S.am d) 32) ∧ σ.1 39 d = nI (S.dd d) ∧ σ.1 40 d = nI (S.bg d) ∧ σ.1 31 d = nI d := h.2.2.2.2
theorem untS_c {x y : Nat} (h1 : 2 ≤ x) (h2 : x ≤ 30) : ¬ untS x y := by omega
theorem sa_at {σ0 σ : pST} {S : RnS} {c d : Nat} {A : AtS} (h : SA σ0 σ S c) (hA : RMat σ0 d A) : RMat σ d A := mat_c hA fun x z1 z2 => ⟨funext fun y => (h.fr x y (untS_c (Nat.le_trans (by decide) z1) (Nat.le_trans z2 (by decide)))).1, funext fun y => (h.fr x y (untS_c (Nat.le_trans (by decide) z1) (Nat.le_trans z2 (by decide)))).2⟩
theorem sa_step {σ0 σ : pST} {B : BkS} {bd c : Nat} {S : RnS} (hc : c < 16) (hr : RM σ0 B bd S) (hbg : 1 ≤ S.bg c) (h : SA σ0 σ S c) : SA σ0 (st1 σ c (sumN (fun d => enE (S.am d)) c) (enE (S.am c))) S (c + 1) := by
  obtain ⟨f, lf, eo, ev, of⟩ := h
  have hA0 := (hr.1.a c hc).am hbg
  have hbg0 := (hr.1.a c hc).bg
  have htb := hr.1.tb
  have hA : RMat σ c (S.am c) := sa_at (c := c) (S := S) ⟨f, lf, eo, ev, of⟩ hA0.1
  have hdd : σ.1 20 c = nI (S.dd c) := by rw [(f 20 c (untS_c (by decide) (by decide))).1]; exact hA0.2
  have hb2 : σ.1 19 c = nI (S.bg c) := by rw [(f 19 c (untS_c (by decide) (by decide))).1]; exact hbg0
  clear hr
  generalize ho : sumN (fun d => enE (S.am d)) c = o at eo ⊢
  have hmono : ∀ d, d < c → sumN (fun d => enE (S.am d)) d + enE (S.am d) ≤ o := fun d hd => by
    have q : sumN (fun d => enE (S.am d)) (d + 1) ≤ sumN (fun d => enE (S.am d)) c := sumN_mono (by clear htb hA; omega)
    rw [ho] at q
    exact q
  have e34 : ∀ y, (st1 σ c o (enE (S.am c))).2 34 y = if o ≤ y ∧ y < o + enE (S.am c) then σ.2 18 (12 * c + (y - o)) else σ.2 34 y := fun y => by
    show evJ (σ.1, sjJ σ c 32) c o (enE (S.am c)) 34 y = _
    unfold evJ
    by_cases q : o ≤ y ∧ y < o + enE (S.am c)
    · rw [if_pos ⟨rfl, q⟩, if_pos q]
      exact congrFun (sjJ_o (σ := σ) (c := c) (m := 32) (x := 18) (by decide)) _
    · rw [if_neg (fun z => q z.2), if_neg q]
      exact congrFun (sjJ_o (σ := σ) (c := c) (m := 32) (x := 34) (by decide)) _
  have e35 : ∀ y, (st1 σ c o (enE (S.am c))).1 35 y = if o ≤ y ∧ y < o + enE (S.am c) then nI c else σ.1 35 y := fun y => by
    show pm_ui (pm_ui (pm_ui (pm_ui (pm_ui (pm_ui (evI (σ.1, sjJ σ c 32) c o (enE (S.am c))) 36 c (σ.1 9 c)) 37 c (σ.1 12 c)) 38 c (nI (wcM σ c 32))) 39 c (σ.1 20 c)) 40 c (σ.1 19 c)) 31 c (nI c) 35 y = _
    rw [ui_o (by decide), ui_o (by decide), ui_o (by decide), ui_o (by decide), ui_o (by decide), ui_o (by decide)]
    unfold evI
    by_cases q : o ≤ y ∧ y < o + enE (S.am c)
    · rw [if_pos ⟨rfl, q⟩, if_pos q]
    · rw [if_neg (fun z => q z.2), if_neg (fun z => absurd z.1 (by decide)), if_neg q]
  have hen : enE (S.am c) ≤ (S.am c).en := by unfold enE; cases (S.am c).fl <;> simp
  refine ⟨fun x y hn => ?_, fun k hk => ?_, ?_, fun d e hd he => ?_, fun d hd => ?_⟩
  · obtain ⟨p1, p2⟩ := st1_o (σ := σ) (c := c) (o := o) (e := enE (S.am c)) hn
    exact ⟨p1.trans (f x y hn).1, p2.trans (f x y hn).2⟩
  · show evJ (σ.1, sjJ σ c 32) c o (enE (S.am c)) 1 k = _
    unfold evJ
    rw [if_neg (fun z => absurd z.1 (by decide))]
    obtain ⟨t1, _, t3⟩ := htb.st k c hk hc
    have t1' : σ.1 21 (32 * c + k) = hI (S.T.st c k) := by rw [(f 21 _ (untS_c (by decide) (by decide))).1]; exact t1
    show (if 1 = 1 ∧ k < 32 ∧ ¬ σ.1 21 (32 * c + k) = 0 then σ.2 23 (32 * c + k) else σ.2 1 k) = svT S.T k (if S.T.st c k = 0 then wbT S.T k c else some c)
    by_cases e : S.T.st c k = 0
    · have z : σ.1 21 (32 * c + k) = 0 := by rw [t1', e]; rfl
      rw [if_neg (fun q => q.2.2 z), if_pos e]
      exact lf k hk
    · have z : ¬ σ.1 21 (32 * c + k) = 0 := by
        rw [t1']
        cases hs : S.T.st c k with
        | zero => exact absurd hs e
        | succ m => show ¬ (1 : Int32) = 0; decide
      rw [if_pos ⟨rfl, hk, z⟩, if_neg e, (f 23 _ (untS_c (by decide) (by decide))).2]
      exact (htb.nv k c hk hc e).2
  · show pm_ui (pm_ui (pm_ui (pm_ui (pm_ui (pm_ui (evI (σ.1, sjJ σ c 32) c o (enE (S.am c))) 36 c (σ.1 9 c)) 37 c (σ.1 12 c)) 38 c (nI (wcM σ c 32))) 39 c (σ.1 20 c)) 40 c (σ.1 19 c)) 31 c (nI c) 0 50 = nI (sumN (fun d => enE (S.am d)) c + enE (S.am c))
    rw [ho, ui_o (by decide), ui_o (by decide), ui_o (by decide), ui_o (by decide), ui_o (by decide), ui_o (by decide)]
    unfold evI
    rw [if_neg (fun z => absurd z.1 (by decide)), if_pos ⟨rfl, rfl⟩]
  · rw [e34, e35]
    by_cases q : d = c
    · subst q
      rw [ho]
      have q2 : o ≤ o + e ∧ o + e < o + enE (S.am d) := by clear htb hA; omega
      rw [if_pos q2, if_pos q2, show o + e - o = e by clear htb hA; omega]
      exact ⟨hA.ev e (Nat.lt_of_lt_of_le he hen), rfl⟩
    · have hdc : d < c := by clear htb hA; omega
      have hm := hmono d hdc
      have q2 : ¬ (o ≤ sumN (fun d => enE (S.am d)) d + e ∧ sumN (fun d => enE (S.am d)) d + e < o + enE (S.am c)) := by clear htb hA; omega
      rw [if_neg q2, if_neg q2]
      exact ev d e hdc he
  · have key : ∀ x, 36 ≤ x ∧ x ≤ 40 ∨ x = 31 → d ≠ c → (st1 σ c o (enE (S.am c))).1 x d = σ.1 x d := fun x hx hne => by
      show pm_ui (pm_ui (pm_ui (pm_ui (pm_ui (pm_ui (evI (σ.1, sjJ σ c 32) c o (enE (S.am c))) 36 c (σ.1 9 c)) 37 c (σ.1 12 c)) 38 c (nI (wcM σ c 32))) 39 c (σ.1 20 c)) 40 c (σ.1 19 c)) 31 c (nI c) x d = _
      rw [pm_ui_a, if_neg (fun z => hne z.2), pm_ui_a, if_neg (fun z => hne z.2), pm_ui_a, if_neg (fun z => hne z.2), pm_ui_a, if_neg (fun z => hne z.2), pm_ui_a, if_neg (fun z => hne z.2), pm_ui_a, if_neg (fun z => hne z.2)]
      unfold evI
      rw [if_neg (by clear htb hA; omega), if_neg (by clear htb hA; omega)]
    by_cases q : d = c
    · subst q
      have hw := wc_eq hA 32 (Nat.le_refl _)
      have v9 := hA.fl
      have v12 := hA.kn
      clear htb hA f lf ev of key e34 e35 hmono
      refine ⟨?_, ?_, ?_, ?_, ?_, ?_⟩
      all_goals simp only [st1, pm_ui_a]
      all_goals simp [v9, v12, hw, hdd, hb2]
    · rw [key 36 (by decide) q, key 37 (by decide) q, key 38 (by decide) q, key 39 (by decide) q, key 40 (by decide) q, key 31 (by decide) q]
      exact of d (by clear htb hA; omega)
