/-! ===== the reference's plain run in order ===== -/
def plJ (J : Nat → Nat → Int64) (f g r : Nat → Int64) : Nat → Nat → Int64 := fun x y => if x = 41 ∧ y < 32 then f y else if x = 42 ∧ y < 32 then g y else if x = 43 ∧ y < 4 then r y else J x y
theorem pl_1 {J : Nat → Nat → Int64} {f g r : Nat → Int64} {i : Nat} {v : Int64} (h : i < 32) : pm_uj (plJ J f g r) 41 i v = plJ J (fup f i v) g r := by
  funext x y
  rw [pm_uj_a]
  unfold plJ
  by_cases e : x = 41 ∧ y = i
  · rw [if_pos e, if_pos ⟨e.1, by omega⟩, e.2, fup_s]
  · rw [if_neg e]
    by_cases q : x = 41 ∧ y < 32
    · rw [if_pos q, if_pos q, fup_n (fun z => e ⟨q.1, z⟩)]
    · rw [if_neg q, if_neg q]
theorem pl_2 {J : Nat → Nat → Int64} {f g r : Nat → Int64} {i : Nat} {v : Int64} (h : i < 32) : pm_uj (plJ J f g r) 42 i v = plJ J f (fup g i v) r := by
  funext x y
  rw [pm_uj_a]
  unfold plJ
  by_cases e : x = 42 ∧ y = i
  · rw [if_pos e, if_neg (by omega), if_pos ⟨e.1, by omega⟩, e.2, fup_s]
  · rw [if_neg e]
    by_cases q : x = 42 ∧ y < 32
    · have n41 : ¬ (x = 41 ∧ y < 32) := by omega
      rw [if_neg n41, if_neg n41, if_pos q, if_pos q, fup_n (fun z => e ⟨q.1, z⟩)]
    · rw [if_neg q, if_neg q]
theorem pl_3 {J : Nat → Nat → Int64} {f g r : Nat → Int64} {i : Nat} {v : Int64} (h : i < 4) : pm_uj (plJ J f g r) 43 i v = plJ J f g (fup r i v) := by
  funext x y
  rw [pm_uj_a]
  unfold plJ
  by_cases e : x = 43 ∧ y = i
  · rw [if_pos e, if_neg (by omega), if_neg (by omega), if_pos ⟨e.1, by omega⟩, e.2, fup_s]
  · rw [if_neg e]
    by_cases q : x = 43 ∧ y < 4
    · have n41 : ¬ (x = 41 ∧ y < 32) := by omega
      have n42 : ¬ (x = 42 ∧ y < 32) := by omega
      rw [if_neg n41, if_neg n42, if_neg n41, if_neg n42, if_pos q, if_pos q, fup_n (fun z => e ⟨q.1, z⟩)]
    · rw [if_neg q, if_neg q]
theorem pl_r1 {J : Nat → Nat → Int64} {f g r : Nat → Int64} {i : Nat} (h : i < 32) : plJ J f g r 41 i = f i := if_pos ⟨rfl, h⟩
theorem pl_r2 {J : Nat → Nat → Int64} {f g r : Nat → Int64} {i : Nat} (h : i < 32) : plJ J f g r 42 i = g i := by
  unfold plJ
  rw [if_neg (fun z => absurd z.1 (by decide)), if_pos ⟨rfl, h⟩]
theorem pl_r3 {J : Nat → Nat → Int64} {f g r : Nat → Int64} {i : Nat} (h : i < 4) : plJ J f g r 43 i = r i := by
  unfold plJ
  rw [if_neg (fun z => absurd z.1 (by decide)), if_neg (fun z => absurd z.1 (by decide)), if_pos ⟨rfl, h⟩]
theorem pl_o {J : Nat → Nat → Int64} {f g r : Nat → Int64} {x : Nat} (h : x ≤ 40) : plJ J f g r x = J x := by
  funext y
  unfold plJ
  rw [if_neg (by omega), if_neg (by omega), if_neg (by omega)]
theorem pl_id {J : Nat → Nat → Int64} : plJ J (J 41) (J 42) (J 43) = J := by
  funext x y
  unfold plJ
  split
  · rename_i h; rw [h.1]
  · split
    · rename_i h; rw [h.1]
    · split
      · rename_i h; rw [h.1]
      · rfl
/-- plain registers and leaves against the attempt -/
abbrev PIv (pv g r : Nat → Int64) (A : AtS) : Prop := (∀ i, i < 4 → r i = A.rg i) ∧ (∀ l, l < 32 → g l = if A.wb l = true then A.wv l else pv l) ∧ (∀ i, i < A.kn → A.kv (A.kl i) = pv (A.kl i))
theorem pi_set {pv g r : Nat → Int64} {A : AtS} {a : Nat} {v : Int64} (h : PIv pv g r A) : PIv pv g (fup r a v) (finA (mkAtS A.p A.fl (fup A.rg a v) A.wb A.wv A.kn A.kl A.kw A.kr A.kv A.en A.ev)) := by
  refine ⟨fun i hi => ?_, h.2.1, h.2.2⟩
  show fup r a v i = fup A.rg a v i
  by_cases e : i = a
  · subst e; rw [fup_s, fup_s]
  · rw [fup_n e, fup_n e]; exact h.1 i hi
theorem pi_write {pv g r : Nat → Int64} {A : AtS} {l : Nat} {v : Int64} (h : PIv pv g r A) : PIv pv (fup g l v) r (finA (mkAtS A.p A.fl A.rg (fup A.wb l true) (fup A.wv l v) A.kn A.kl A.kw A.kr A.kv A.en A.ev)) := by
  refine ⟨h.1, fun k hk => ?_, h.2.2⟩
  show fup g l v k = if fup A.wb l true k = true then fup A.wv l v k else pv k
  by_cases e : k = l
  · subst e; rw [fup_s, fup_s, fup_s, if_pos rfl]
  · rw [fup_n e, fup_n e, fup_n e]; exact h.2.1 k hk
theorem pi_p {pv g r : Nat → Int64} {A : AtS} {q : Nat} (h : PIv pv g r A) : PIv pv g r (finA (mkAtS (q) A.fl A.rg A.wb A.wv A.kn A.kl A.kw A.kr A.kv A.en A.ev)) := h
theorem pi_fin {pv g r : Nat → Int64} {A : AtS} (h : PIv pv g r A) : PIv pv g r (finA A) := h
theorem pi_ev {pv g r : Nat → Int64} {A : AtS} {e : Nat} {v : Nat → Int64} (h : PIv pv g r A) : PIv pv g r (finA (mkAtS A.p A.fl A.rg A.wb A.wv A.kn A.kl A.kw A.kr A.kv (e) (v))) := h
theorem pi_fl {pv g r : Nat → Int64} {A : AtS} (h : PIv pv g r A) : PIv pv g r (finA (mkAtS A.p (true) A.rg A.wb A.wv A.kn A.kl A.kw A.kr A.kv A.en A.ev)) := h
theorem pi_read {T : TbS} {c a l : Nat} {g r : Nat → Int64} {A : AtS} (hT : nph T c) (hl : l < 32) (h : PIv (fun k => svT T k (wbT T k c)) g r A) : PIv (fun k => svT T k (wbT T k c)) g (fup r a (g l)) (finA (readA T c a l A).2) ∧ (readA T c a l A).1 = none ∧ (readA T c a l A).2.p = A.p ∧ (readA T c a l A).2.fl = A.fl := by
  have hg := h.2.1 l hl
  unfold readA
  by_cases h1 : A.wb l = true
  · rw [if_pos h1]
    rw [if_pos h1] at hg
    rw [hg]
    exact ⟨pi_set h, rfl, rfl, rfl⟩
  · rw [if_neg h1]
    rw [if_neg h1] at hg
    by_cases h2 : keptA A l
    · rw [if_pos h2]
      obtain ⟨i, q1, q2⟩ := h2
      have h3 := h.2.2 i q1
      rw [q2] at h3
      rw [hg, ← h3]
      exact ⟨pi_set h, rfl, rfl, rfl⟩
    · rw [if_neg h2]
      have hp : ¬ isPh T l (wbT T l c) = true := fun z => by
        cases hw : wbT T l c with
        | none => rw [hw] at z; cases z
        | some j =>
          rw [hw] at z
          have z' : T.st j l = 2 := by simpa [isPh] using z
          exact hT j l (wbT_l hw).1 z'
      rw [if_neg hp, hg]
      refine ⟨⟨(pi_set (a := a) (v := svT T l (wbT T l c)) h).1, h.2.1, fun i hi => ?_⟩, rfl, rfl, rfl⟩
      show fup A.kv l (svT T l (wbT T l c)) (fup A.kl A.kn l i) = svT T (fup A.kl A.kn l i) (wbT T (fup A.kl A.kn l i) c)
      by_cases e : i = A.kn
      · subst e
        rw [fup_s, fup_s]
      · rw [fup_n e]
        have hi' : i < A.kn + 1 := hi
        by_cases e2 : A.kl i = l
        · rw [e2, fup_s]
        · rw [fup_n e2]
          exact h.2.2 i (by omega)
/-- one act of the plain run; what follows of the attempt -/
theorem pi_kd {B : BkS} {T : TbS} {c i : Nat} {A : AtS} (ei : c * 12 + A.p = i) (hk : ¬ B.kd i = 1) : (doA B T c A).2 = finA (perfA (B.kd i) (B.lf i) (B.rt i) (B.vl i) A) := by
  unfold doA
  rw [ei, if_neg hk]
theorem pi_k0 {B : BkS} {T : TbS} {c i : Nat} {g r : Nat → Int64} {A : AtS} (hB : BkOK B) (hT : nph T c) (hi : i < 192) (ei : c * 12 + A.p = i) (h : PIv (fun k => svT T k (wbT T k c)) g r A) (hf : A.fl = false) (hk : B.kd i = 0) : PIv (fun k => svT T k (wbT T k c)) g (fup r (B.lf i) (B.vl i)) (doA B T c A).2 ∧ (doA B T c A).2.p = A.p + 1 ∧ (doA B T c A).2.fl = false := by
  have r1 := h.1 (B.lf i) (hB.kd i hi).2.1
  have r2 := h.1 (B.rt i) (hB.kd i hi).2.2.1
  rw [pi_kd ei (by rw [hk]; decide), hk]
  exact ⟨pi_set h, rfl, hf⟩
theorem pi_k1 {B : BkS} {T : TbS} {c i : Nat} {g r : Nat → Int64} {A : AtS} (hB : BkOK B) (hT : nph T c) (hi : i < 192) (ei : c * 12 + A.p = i) (h : PIv (fun k => svT T k (wbT T k c)) g r A) (hf : A.fl = false) (hk : B.kd i = 1) : PIv (fun k => svT T k (wbT T k c)) g (fup r (B.lf i) (g (lfA (B.vl i + r (B.rt i))))) (doA B T c A).2 ∧ (doA B T c A).2.p = A.p + 1 ∧ (doA B T c A).2.fl = false := by
  have r1 := h.1 (B.lf i) (hB.kd i hi).2.1
  have r2 := h.1 (B.rt i) (hB.kd i hi).2.2.1
  rw [r2]
  have hr := pi_read (a := B.lf i) hT (lfA_l (B.vl i + A.rg (B.rt i))) h
  unfold doA
  rw [ei, if_pos hk]
  cases hq : readA T c (B.lf i) (lfA (B.vl i + A.rg (B.rt i))) A with
  | mk o A' =>
    rw [hq] at hr
    obtain ⟨u1, u2, u3, u4⟩ := hr
    cases o with
    | some j => cases u2
    | none => exact ⟨u1, congrArg (· + 1) u3, u4.trans hf⟩
theorem pi_k2 {B : BkS} {T : TbS} {c i : Nat} {g r : Nat → Int64} {A : AtS} (hB : BkOK B) (hT : nph T c) (hi : i < 192) (ei : c * 12 + A.p = i) (h : PIv (fun k => svT T k (wbT T k c)) g r A) (hf : A.fl = false) (hk : B.kd i = 2) : PIv (fun k => svT T k (wbT T k c)) (fup g (lfA (B.vl i + r (B.rt i))) (r (B.lf i))) r (doA B T c A).2 ∧ (doA B T c A).2.p = A.p + 1 ∧ (doA B T c A).2.fl = false := by
  have r1 := h.1 (B.lf i) (hB.kd i hi).2.1
  have r2 := h.1 (B.rt i) (hB.kd i hi).2.2.1
  rw [pi_kd ei (by rw [hk]; decide), hk, r1, r2]
  exact ⟨pi_write h, rfl, hf⟩
theorem pi_k3 {B : BkS} {T : TbS} {c i : Nat} {g r : Nat → Int64} {A : AtS} (hB : BkOK B) (hT : nph T c) (hi : i < 192) (ei : c * 12 + A.p = i) (h : PIv (fun k => svT T k (wbT T k c)) g r A) (hf : A.fl = false) (hk : B.kd i = 3) : PIv (fun k => svT T k (wbT T k c)) g (fup r (B.lf i) (r (B.lf i) + r (B.rt i))) (doA B T c A).2 ∧ (doA B T c A).2.p = A.p + 1 ∧ (doA B T c A).2.fl = false := by
  have r1 := h.1 (B.lf i) (hB.kd i hi).2.1
  have r2 := h.1 (B.rt i) (hB.kd i hi).2.2.1
  rw [pi_kd ei (by rw [hk]; decide), hk, r1, r2]
  exact ⟨pi_set h, rfl, hf⟩
theorem pi_k4 {B : BkS} {T : TbS} {c i : Nat} {g r : Nat → Int64} {A : AtS} (hB : BkOK B) (hT : nph T c) (hi : i < 192) (ei : c * 12 + A.p = i) (h : PIv (fun k => svT T k (wbT T k c)) g r A) (hf : A.fl = false) (hk : B.kd i = 4) : PIv (fun k => svT T k (wbT T k c)) g (fup r (B.lf i) (r (B.lf i) - r (B.rt i))) (doA B T c A).2 ∧ (doA B T c A).2.p = A.p + 1 ∧ (doA B T c A).2.fl = false := by
  have r1 := h.1 (B.lf i) (hB.kd i hi).2.1
  have r2 := h.1 (B.rt i) (hB.kd i hi).2.2.1
  rw [pi_kd ei (by rw [hk]; decide), hk, r1, r2]
  exact ⟨pi_set h, rfl, hf⟩
theorem pi_k5 {B : BkS} {T : TbS} {c i : Nat} {g r : Nat → Int64} {A : AtS} (hB : BkOK B) (hT : nph T c) (hi : i < 192) (ei : c * 12 + A.p = i) (h : PIv (fun k => svT T k (wbT T k c)) g r A) (hf : A.fl = false) (hk : B.kd i = 5) : PIv (fun k => svT T k (wbT T k c)) g (fup r (B.lf i) (r (B.lf i) * r (B.rt i))) (doA B T c A).2 ∧ (doA B T c A).2.p = A.p + 1 ∧ (doA B T c A).2.fl = false := by
  have r1 := h.1 (B.lf i) (hB.kd i hi).2.1
  have r2 := h.1 (B.rt i) (hB.kd i hi).2.2.1
  rw [pi_kd ei (by rw [hk]; decide), hk, r1, r2]
  exact ⟨pi_set h, rfl, hf⟩
theorem pi_k6t {B : BkS} {T : TbS} {c i : Nat} {g r : Nat → Int64} {A : AtS} (hB : BkOK B) (hT : nph T c) (hi : i < 192) (ei : c * 12 + A.p = i) (h : PIv (fun k => svT T k (wbT T k c)) g r A) (hf : A.fl = false) (hk : B.kd i = 6) (hw : lg_cmp (r (B.lf i)) (r (B.rt i)) < 0) : PIv (fun k => svT T k (wbT T k c)) g r (doA B T c A).2 ∧ (doA B T c A).2.p = A.p + (B.vl i).toInt32.toNatClampNeg + 1 ∧ (doA B T c A).2.fl = false := by
  have r1 := h.1 (B.lf i) (hB.kd i hi).2.1
  have r2 := h.1 (B.rt i) (hB.kd i hi).2.2.1
  rw [r1, r2] at hw
  rw [pi_kd ei (by rw [hk]; decide), hk]
  have e : perfA 6 (B.lf i) (B.rt i) (B.vl i) A = (mkAtS (A.p + (B.vl i).toInt32.toNatClampNeg) A.fl A.rg A.wb A.wv A.kn A.kl A.kw A.kr A.kv A.en A.ev) := if_pos hw
  rw [e]
  exact ⟨pi_p h, rfl, hf⟩
theorem pi_k6f {B : BkS} {T : TbS} {c i : Nat} {g r : Nat → Int64} {A : AtS} (hB : BkOK B) (hT : nph T c) (hi : i < 192) (ei : c * 12 + A.p = i) (h : PIv (fun k => svT T k (wbT T k c)) g r A) (hf : A.fl = false) (hk : B.kd i = 6) (hw : ¬ lg_cmp (r (B.lf i)) (r (B.rt i)) < 0) : PIv (fun k => svT T k (wbT T k c)) g r (doA B T c A).2 ∧ (doA B T c A).2.p = A.p + 1 ∧ (doA B T c A).2.fl = false := by
  have r1 := h.1 (B.lf i) (hB.kd i hi).2.1
  have r2 := h.1 (B.rt i) (hB.kd i hi).2.2.1
  rw [r1, r2] at hw
  rw [pi_kd ei (by rw [hk]; decide), hk]
  have e : perfA 6 (B.lf i) (B.rt i) (B.vl i) A = A := if_neg hw
  rw [e]
  exact ⟨pi_fin h, rfl, hf⟩
theorem pi_k7 {B : BkS} {T : TbS} {c i : Nat} {g r : Nat → Int64} {A : AtS} (hB : BkOK B) (hT : nph T c) (hi : i < 192) (ei : c * 12 + A.p = i) (h : PIv (fun k => svT T k (wbT T k c)) g r A) (hf : A.fl = false) (hk : B.kd i = 7) : PIv (fun k => svT T k (wbT T k c)) g r (doA B T c A).2 ∧ (doA B T c A).2.p = A.p + 1 ∧ (doA B T c A).2.fl = false := by
  have r1 := h.1 (B.lf i) (hB.kd i hi).2.1
  have r2 := h.1 (B.rt i) (hB.kd i hi).2.2.1
  rw [pi_kd ei (by rw [hk]; decide), hk]
  exact ⟨pi_ev h, rfl, hf⟩
theorem pi_k8t {B : BkS} {T : TbS} {c i : Nat} {g r : Nat → Int64} {A : AtS} (hB : BkOK B) (hT : nph T c) (hi : i < 192) (ei : c * 12 + A.p = i) (h : PIv (fun k => svT T k (wbT T k c)) g r A) (hf : A.fl = false) (hk : B.kd i = 8) (hw : lg_cmp (r (B.lf i)) 0 < 0) : PIv (fun k => svT T k (wbT T k c)) g r (doA B T c A).2 ∧ (doA B T c A).2.p = A.p + 1 ∧ (doA B T c A).2.fl = true := by
  have r1 := h.1 (B.lf i) (hB.kd i hi).2.1
  have r2 := h.1 (B.rt i) (hB.kd i hi).2.2.1
  rw [r1] at hw
  rw [pi_kd ei (by rw [hk]; decide), hk]
  have e : perfA 8 (B.lf i) (B.rt i) (B.vl i) A = (mkAtS A.p (true) A.rg A.wb A.wv A.kn A.kl A.kw A.kr A.kv A.en A.ev) := if_pos hw
  rw [e]
  exact ⟨pi_fl h, rfl, rfl⟩
theorem pi_k8f {B : BkS} {T : TbS} {c i : Nat} {g r : Nat → Int64} {A : AtS} (hB : BkOK B) (hT : nph T c) (hi : i < 192) (ei : c * 12 + A.p = i) (h : PIv (fun k => svT T k (wbT T k c)) g r A) (hf : A.fl = false) (hk : B.kd i = 8) (hw : ¬ lg_cmp (r (B.lf i)) 0 < 0) : PIv (fun k => svT T k (wbT T k c)) g r (doA B T c A).2 ∧ (doA B T c A).2.p = A.p + 1 ∧ (doA B T c A).2.fl = false := by
  have r1 := h.1 (B.lf i) (hB.kd i hi).2.1
  have r2 := h.1 (B.rt i) (hB.kd i hi).2.2.1
  rw [r1] at hw
  rw [pi_kd ei (by rw [hk]; decide), hk]
  have e : perfA 8 (B.lf i) (B.rt i) (B.vl i) A = A := if_neg hw
  rw [e]
  exact ⟨pi_fin h, rfl, hf⟩
theorem pi_0 {pv g : Nat → Int64} (h : ∀ l, l < 32 → g l = pv l) : PIv pv g (fun _ => 0) at0 := ⟨fun _ _ => rfl, fun l hl => h l hl, fun i hi => absurd (show i < 0 from hi) (Nat.not_lt_zero _)⟩
/-- after a call, the leaves seen by the next one -/
theorem pi_next {B : BkS} {bf : Nat → Int64} {c : Nat} {g : Nat → Int64} (h : ∀ l, l < 32 → g l = if (ordA B bf c).wb l = true then (ordA B bf c).wv l else svT (ordT B bf c) l (wbT (ordT B bf c) l c)) (l : Nat) (hl : l < 32) : svT (ordT B bf (c + 1)) l (wbT (ordT B bf (c + 1)) l (c + 1)) = if (ordA B bf c).fl = true then svT (ordT B bf c) l (wbT (ordT B bf c) l c) else g l := by
  have hlow : ∀ m, m ≤ c → wbT (ordT B bf (c + 1)) l m = wbT (ordT B bf c) l m := fun m => by
    induction m with
    | zero => intro _; rfl
    | succ m ih =>
      intro hm
      show (if (if m = c then (cond (wrA (ordA B bf c) l) 1 0) else (ordT B bf c).st m l) = 0 then wbT (ordT B bf (c + 1)) l m else some m) = (if (ordT B bf c).st m l = 0 then wbT (ordT B bf c) l m else some m)
      rw [if_neg (show ¬ m = c by omega), ih (by omega)]
  have hsv : ∀ o, (∀ j, o = some j → j < c) → svT (ordT B bf (c + 1)) l o = svT (ordT B bf c) l o := fun o ho => by
    cases o with
    | none => exact congrFun ((ordT_s (c + 1) 0 0).2.2.2.trans (ordT_s c 0 0).2.2.2.symm) l
    | some j =>
      show (if j = c ∧ wrA (ordA B bf c) l = true then (ordA B bf c).wv l else (ordT B bf c).vl j l) = (ordT B bf c).vl j l
      rw [if_neg (fun z => by have := ho j rfl; omega)]
  have e1 : wbT (ordT B bf (c + 1)) l (c + 1) = if wrA (ordA B bf c) l = true then some c else wbT (ordT B bf c) l c := by
    show (if (if c = c then (cond (wrA (ordA B bf c) l) 1 0) else (ordT B bf c).st c l) = 0 then wbT (ordT B bf (c + 1)) l c else some c) = _
    rw [if_pos rfl, hlow c (Nat.le_refl _)]
    cases wrA (ordA B bf c) l <;> rfl
  rw [e1, h l hl]
  cases hw : wrA (ordA B bf c) l with
  | true =>
    have hfl : (ordA B bf c).fl = false := by unfold wrA at hw; cases hq : (ordA B bf c).fl with
      | false => rfl
      | true => rw [hq] at hw; simp at hw
    have hwb : (ordA B bf c).wb l = true := by unfold wrA at hw; rw [hfl] at hw; simpa using hw
    rw [if_pos rfl, hfl, if_neg (by decide), if_pos hwb]
    show (if c = c ∧ wrA (ordA B bf c) l = true then (ordA B bf c).wv l else (ordT B bf c).vl c l) = _
    rw [if_pos ⟨rfl, hw⟩]
  | false =>
    rw [if_neg (by decide), hsv _ (fun j z => (wbT_l z).1)]
    cases hq : (ordA B bf c).fl with
    | true => rw [if_pos rfl]
    | false =>
      have hwb : ¬ (ordA B bf c).wb l = true := by unfold wrA at hw; rw [hq] at hw; simpa using hw
      rw [if_neg (by decide), if_neg hwb]
