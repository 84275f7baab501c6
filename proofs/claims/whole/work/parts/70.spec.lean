/-! ===== the plain machine that both sides keep to ===== -/
def fup {α : Type} (f : Nat → α) (i : Nat) (v : α) : Nat → α := fun j => if j = i then v else f j
theorem fup_s {α : Type} {f : Nat → α} {i : Nat} {v : α} : fup f i v i = v := if_pos rfl
theorem fup_n {α : Type} {f : Nat → α} {i j : Nat} {v : α} (h : j ≠ i) : fup f i v j = f j := if_neg h
abbrev AtS : Type := (Nat) × (Bool) × (Nat → Int64) × (Nat → Bool) × (Nat → Int64) × (Nat) × (Nat → Nat) × (Nat → Option Nat) × (Nat → Nat) × (Nat → Int64) × (Nat) × (Nat → Int64)
def mkAtS (p : Nat) (fl : Bool) (rg : Nat → Int64) (wb : Nat → Bool) (wv : Nat → Int64) (kn : Nat) (kl : Nat → Nat) (kw : Nat → Option Nat) (kr : Nat → Nat) (kv : Nat → Int64) (en : Nat) (ev : Nat → Int64) : AtS := (p, fl, rg, wb, wv, kn, kl, kw, kr, kv, en, ev)
def AtS.p (z : AtS) : Nat := z.1
def AtS.fl (z : AtS) : Bool := z.2.1
def AtS.rg (z : AtS) : Nat → Int64 := z.2.2.1
def AtS.wb (z : AtS) : Nat → Bool := z.2.2.2.1
def AtS.wv (z : AtS) : Nat → Int64 := z.2.2.2.2.1
def AtS.kn (z : AtS) : Nat := z.2.2.2.2.2.1
def AtS.kl (z : AtS) : Nat → Nat := z.2.2.2.2.2.2.1
def AtS.kw (z : AtS) : Nat → Option Nat := z.2.2.2.2.2.2.2.1
def AtS.kr (z : AtS) : Nat → Nat := z.2.2.2.2.2.2.2.2.1
def AtS.kv (z : AtS) : Nat → Int64 := z.2.2.2.2.2.2.2.2.2.1
def AtS.en (z : AtS) : Nat := z.2.2.2.2.2.2.2.2.2.2.1
def AtS.ev (z : AtS) : Nat → Int64 := z.2.2.2.2.2.2.2.2.2.2.2
theorem mkAtS_p {p : Nat} {fl : Bool} {rg : Nat → Int64} {wb : Nat → Bool} {wv : Nat → Int64} {kn : Nat} {kl : Nat → Nat} {kw : Nat → Option Nat} {kr : Nat → Nat} {kv : Nat → Int64} {en : Nat} {ev : Nat → Int64} : (mkAtS p fl rg wb wv kn kl kw kr kv en ev).p = p := rfl
theorem mkAtS_fl {p : Nat} {fl : Bool} {rg : Nat → Int64} {wb : Nat → Bool} {wv : Nat → Int64} {kn : Nat} {kl : Nat → Nat} {kw : Nat → Option Nat} {kr : Nat → Nat} {kv : Nat → Int64} {en : Nat} {ev : Nat → Int64} : (mkAtS p fl rg wb wv kn kl kw kr kv en ev).fl = fl := rfl
theorem mkAtS_rg {p : Nat} {fl : Bool} {rg : Nat → Int64} {wb : Nat → Bool} {wv : Nat → Int64} {kn : Nat} {kl : Nat → Nat} {kw : Nat → Option Nat} {kr : Nat → Nat} {kv : Nat → Int64} {en : Nat} {ev : Nat → Int64} : (mkAtS p fl rg wb wv kn kl kw kr kv en ev).rg = rg := rfl
theorem mkAtS_wb {p : Nat} {fl : Bool} {rg : Nat → Int64} {wb : Nat → Bool} {wv : Nat → Int64} {kn : Nat} {kl : Nat → Nat} {kw : Nat → Option Nat} {kr : Nat → Nat} {kv : Nat → Int64} {en : Nat} {ev : Nat → Int64} : (mkAtS p fl rg wb wv kn kl kw kr kv en ev).wb = wb := rfl
theorem mkAtS_wv {p : Nat} {fl : Bool} {rg : Nat → Int64} {wb : Nat → Bool} {wv : Nat → Int64} {kn : Nat} {kl : Nat → Nat} {kw : Nat → Option Nat} {kr : Nat → Nat} {kv : Nat → Int64} {en : Nat} {ev : Nat → Int64} : (mkAtS p fl rg wb wv kn kl kw kr kv en ev).wv = wv := rfl
theorem mkAtS_kn {p : Nat} {fl : Bool} {rg : Nat → Int64} {wb : Nat → Bool} {wv : Nat → Int64} {kn : Nat} {kl : Nat → Nat} {kw : Nat → Option Nat} {kr : Nat → Nat} {kv : Nat → Int64} {en : Nat} {ev : Nat → Int64} : (mkAtS p fl rg wb wv kn kl kw kr kv en ev).kn = kn := rfl
theorem mkAtS_kl {p : Nat} {fl : Bool} {rg : Nat → Int64} {wb : Nat → Bool} {wv : Nat → Int64} {kn : Nat} {kl : Nat → Nat} {kw : Nat → Option Nat} {kr : Nat → Nat} {kv : Nat → Int64} {en : Nat} {ev : Nat → Int64} : (mkAtS p fl rg wb wv kn kl kw kr kv en ev).kl = kl := rfl
theorem mkAtS_kw {p : Nat} {fl : Bool} {rg : Nat → Int64} {wb : Nat → Bool} {wv : Nat → Int64} {kn : Nat} {kl : Nat → Nat} {kw : Nat → Option Nat} {kr : Nat → Nat} {kv : Nat → Int64} {en : Nat} {ev : Nat → Int64} : (mkAtS p fl rg wb wv kn kl kw kr kv en ev).kw = kw := rfl
theorem mkAtS_kr {p : Nat} {fl : Bool} {rg : Nat → Int64} {wb : Nat → Bool} {wv : Nat → Int64} {kn : Nat} {kl : Nat → Nat} {kw : Nat → Option Nat} {kr : Nat → Nat} {kv : Nat → Int64} {en : Nat} {ev : Nat → Int64} : (mkAtS p fl rg wb wv kn kl kw kr kv en ev).kr = kr := rfl
theorem mkAtS_kv {p : Nat} {fl : Bool} {rg : Nat → Int64} {wb : Nat → Bool} {wv : Nat → Int64} {kn : Nat} {kl : Nat → Nat} {kw : Nat → Option Nat} {kr : Nat → Nat} {kv : Nat → Int64} {en : Nat} {ev : Nat → Int64} : (mkAtS p fl rg wb wv kn kl kw kr kv en ev).kv = kv := rfl
theorem mkAtS_en {p : Nat} {fl : Bool} {rg : Nat → Int64} {wb : Nat → Bool} {wv : Nat → Int64} {kn : Nat} {kl : Nat → Nat} {kw : Nat → Option Nat} {kr : Nat → Nat} {kv : Nat → Int64} {en : Nat} {ev : Nat → Int64} : (mkAtS p fl rg wb wv kn kl kw kr kv en ev).en = en := rfl
theorem mkAtS_ev {p : Nat} {fl : Bool} {rg : Nat → Int64} {wb : Nat → Bool} {wv : Nat → Int64} {kn : Nat} {kl : Nat → Nat} {kw : Nat → Option Nat} {kr : Nat → Nat} {kv : Nat → Int64} {en : Nat} {ev : Nat → Int64} : (mkAtS p fl rg wb wv kn kl kw kr kv en ev).ev = ev := rfl
def at0 : AtS := mkAtS 0 false (fun _ => 0) (fun _ => false) (fun _ => 0) 0 (fun _ => 0) (fun _ => none) (fun _ => 0) (fun _ => 0) 0 (fun _ => 0)
abbrev BkS : Type := (Nat) × (Nat → Nat) × (Nat → Nat) × (Nat → Nat) × (Nat → Nat) × (Nat → Int64)
def mkBkS (n : Nat) (ac : Nat → Nat) (kd : Nat → Nat) (lf : Nat → Nat) (rt : Nat → Nat) (vl : Nat → Int64) : BkS := (n, ac, kd, lf, rt, vl)
def BkS.n (z : BkS) : Nat := z.1
def BkS.ac (z : BkS) : Nat → Nat := z.2.1
def BkS.kd (z : BkS) : Nat → Nat := z.2.2.1
def BkS.lf (z : BkS) : Nat → Nat := z.2.2.2.1
def BkS.rt (z : BkS) : Nat → Nat := z.2.2.2.2.1
def BkS.vl (z : BkS) : Nat → Int64 := z.2.2.2.2.2
theorem mkBkS_n {n : Nat} {ac : Nat → Nat} {kd : Nat → Nat} {lf : Nat → Nat} {rt : Nat → Nat} {vl : Nat → Int64} : (mkBkS n ac kd lf rt vl).n = n := rfl
theorem mkBkS_ac {n : Nat} {ac : Nat → Nat} {kd : Nat → Nat} {lf : Nat → Nat} {rt : Nat → Nat} {vl : Nat → Int64} : (mkBkS n ac kd lf rt vl).ac = ac := rfl
theorem mkBkS_kd {n : Nat} {ac : Nat → Nat} {kd : Nat → Nat} {lf : Nat → Nat} {rt : Nat → Nat} {vl : Nat → Int64} : (mkBkS n ac kd lf rt vl).kd = kd := rfl
theorem mkBkS_lf {n : Nat} {ac : Nat → Nat} {kd : Nat → Nat} {lf : Nat → Nat} {rt : Nat → Nat} {vl : Nat → Int64} : (mkBkS n ac kd lf rt vl).lf = lf := rfl
theorem mkBkS_rt {n : Nat} {ac : Nat → Nat} {kd : Nat → Nat} {lf : Nat → Nat} {rt : Nat → Nat} {vl : Nat → Int64} : (mkBkS n ac kd lf rt vl).rt = rt := rfl
theorem mkBkS_vl {n : Nat} {ac : Nat → Nat} {kd : Nat → Nat} {lf : Nat → Nat} {rt : Nat → Nat} {vl : Nat → Int64} : (mkBkS n ac kd lf rt vl).vl = vl := rfl
abbrev BkOK (B : BkS) : Prop := (B.n ≤ 16) ∧ (∀ c, c < 16 → B.ac c ≤ 12) ∧ (∀ i, i < 192 → B.kd i ≤ 8 ∧ B.lf i < 4 ∧ B.rt i < 4 ∧ (B.kd i = 6 → ∃ q, q ≤ 12 ∧ (B.vl i).toInt32 = nI q))
theorem BkOK.n {B : BkS} (h : BkOK B) : B.n ≤ 16 := h.1
theorem BkOK.ac {B : BkS} (h : BkOK B) : ∀ c, c < 16 → B.ac c ≤ 12 := h.2.1
theorem BkOK.kd {B : BkS} (h : BkOK B) : ∀ i, i < 192 → B.kd i ≤ 8 ∧ B.lf i < 4 ∧ B.rt i < 4 ∧ (B.kd i = 6 → ∃ q, q ≤ 12 ∧ (B.vl i).toInt32 = nI q) := h.2.2
abbrev TbS : Type := (Nat → Nat → Nat) × (Nat → Nat → Nat) × (Nat → Nat → Int64) × (Nat → Int64)
def mkTbS (st : Nat → Nat → Nat) (nm : Nat → Nat → Nat) (vl : Nat → Nat → Int64) (bf : Nat → Int64) : TbS := (st, nm, vl, bf)
def TbS.st (z : TbS) : Nat → Nat → Nat := z.1
def TbS.nm (z : TbS) : Nat → Nat → Nat := z.2.1
def TbS.vl (z : TbS) : Nat → Nat → Int64 := z.2.2.1
def TbS.bf (z : TbS) : Nat → Int64 := z.2.2.2
theorem mkTbS_st {st : Nat → Nat → Nat} {nm : Nat → Nat → Nat} {vl : Nat → Nat → Int64} {bf : Nat → Int64} : (mkTbS st nm vl bf).st = st := rfl
theorem mkTbS_nm {st : Nat → Nat → Nat} {nm : Nat → Nat → Nat} {vl : Nat → Nat → Int64} {bf : Nat → Int64} : (mkTbS st nm vl bf).nm = nm := rfl
theorem mkTbS_vl {st : Nat → Nat → Nat} {nm : Nat → Nat → Nat} {vl : Nat → Nat → Int64} {bf : Nat → Int64} : (mkTbS st nm vl bf).vl = vl := rfl
theorem mkTbS_bf {st : Nat → Nat → Nat} {nm : Nat → Nat → Nat} {vl : Nat → Nat → Int64} {bf : Nat → Int64} : (mkTbS st nm vl bf).bf = bf := rfl
def wbT (T : TbS) (k : Nat) : Nat → Option Nat
  | 0 => none
  | c + 1 => if T.st c k = 0 then wbT T k c else some c
theorem wbT_l {T : TbS} {k j : Nat} : ∀ {c}, wbT T k c = some j → j < c ∧ T.st j k ≠ 0
  | 0, h => by cases h
  | c + 1, h => by
    unfold wbT at h
    split at h
    · exact ⟨Nat.lt_succ_of_lt (wbT_l h).1, (wbT_l h).2⟩
    · cases h; exact ⟨Nat.lt_succ_self _, by assumption⟩
def snT (T : TbS) (k : Nat) : Option Nat → Nat
  | none => 0
  | some j => T.nm j k
def isPh (T : TbS) (k : Nat) : Option Nat → Bool
  | none => false
  | some j => T.st j k == 2
def svT (T : TbS) (k : Nat) : Option Nat → Int64
  | none => T.bf k
  | some j => T.vl j k
def lfA (v : Int64) : Nat := v.toBitVec.toNat % 32
theorem lfA_l (v : Int64) : lfA v < 32 := Nat.mod_lt _ (by decide)
abbrev keptA (A : AtS) (k : Nat) : Prop := ∃ i, i < A.kn ∧ A.kl i = k
def readA (T : TbS) (c r k : Nat) (A : AtS) : Option Nat × AtS :=
  if A.wb k = true then (none, (mkAtS A.p A.fl (fup A.rg r (A.wv k)) A.wb A.wv A.kn A.kl A.kw A.kr A.kv A.en A.ev))
  else if keptA A k then (none, (mkAtS A.p A.fl (fup A.rg r (A.kv k)) A.wb A.wv A.kn A.kl A.kw A.kr A.kv A.en A.ev))
  else if isPh T k (wbT T k c) = true then (wbT T k c, A)
  else (none, (mkAtS A.p A.fl (fup A.rg r (svT T k (wbT T k c))) A.wb A.wv (A.kn + 1) (fup A.kl A.kn k) (fup A.kw A.kn (wbT T k c)) (fup A.kr A.kn (snT T k (wbT T k c))) (fup A.kv k (svT T k (wbT T k c))) A.en A.ev))
def perfA (kd r s : Nat) (v : Int64) (A : AtS) : AtS :=
  if kd = 0 then (mkAtS A.p A.fl (fup A.rg r v) A.wb A.wv A.kn A.kl A.kw A.kr A.kv A.en A.ev)
  else if kd = 2 then (mkAtS A.p A.fl A.rg (fup A.wb (lfA (v + A.rg s)) true) (fup A.wv (lfA (v + A.rg s)) (A.rg r)) A.kn A.kl A.kw A.kr A.kv A.en A.ev)
  else if kd = 3 then (mkAtS A.p A.fl (fup A.rg r (A.rg r + A.rg s)) A.wb A.wv A.kn A.kl A.kw A.kr A.kv A.en A.ev)
  else if kd = 4 then (mkAtS A.p A.fl (fup A.rg r (A.rg r - A.rg s)) A.wb A.wv A.kn A.kl A.kw A.kr A.kv A.en A.ev)
  else if kd = 5 then (mkAtS A.p A.fl (fup A.rg r (A.rg r * A.rg s)) A.wb A.wv A.kn A.kl A.kw A.kr A.kv A.en A.ev)
  else if kd = 6 then (if lg_cmp (A.rg r) (A.rg s) < 0 then (mkAtS (A.p + v.toInt32.toNatClampNeg) A.fl A.rg A.wb A.wv A.kn A.kl A.kw A.kr A.kv A.en A.ev) else A)
  else if kd = 7 then (mkAtS A.p A.fl A.rg A.wb A.wv A.kn A.kl A.kw A.kr A.kv (A.en + 1) (fup A.ev A.en (A.rg r)))
  else if lg_cmp (A.rg r) 0 < 0 then (mkAtS A.p (true) A.rg A.wb A.wv A.kn A.kl A.kw A.kr A.kv A.en A.ev) else A
def finA (A : AtS) : AtS := (mkAtS (A.p + 1) A.fl A.rg A.wb A.wv A.kn A.kl A.kw A.kr A.kv A.en A.ev)
/-- the next act of call c: the one who hinders it, and what is left -/
def doA (B : BkS) (T : TbS) (c : Nat) (A : AtS) : Option Nat × AtS :=
  if B.kd (c * 12 + A.p) = 1 then
    (match readA T c (B.lf (c * 12 + A.p)) (lfA (B.vl (c * 12 + A.p) + A.rg (B.rt (c * 12 + A.p)))) A with
      | (some j, A') => (some j, A')
      | (none, A') => (none, finA A'))
  else (none, finA (perfA (B.kd (c * 12 + A.p)) (B.lf (c * 12 + A.p)) (B.rt (c * 12 + A.p)) (B.vl (c * 12 + A.p)) A))
abbrev overA (B : BkS) (c : Nat) (A : AtS) : Prop := A.fl = true ∨ B.ac c ≤ A.p
abbrev AtOK (c : Nat) (A : AtS) : Prop := (A.p ≤ 24) ∧ (A.kn ≤ A.p) ∧ (A.kn ≤ 12) ∧ (A.en ≤ A.p) ∧ (A.en ≤ 12) ∧ (∀ i, i < A.kn → A.kl i < 32 ∧ (∀ j, A.kw i = some j → j < c))
theorem AtOK.p {c : Nat} {A : AtS} (h : AtOK c A) : A.p ≤ 24 := h.1
theorem AtOK.kn {c : Nat} {A : AtS} (h : AtOK c A) : A.kn ≤ A.p := h.2.1
theorem AtOK.k12 {c : Nat} {A : AtS} (h : AtOK c A) : A.kn ≤ 12 := h.2.2.1
theorem AtOK.en {c : Nat} {A : AtS} (h : AtOK c A) : A.en ≤ A.p := h.2.2.2.1
theorem AtOK.e12 {c : Nat} {A : AtS} (h : AtOK c A) : A.en ≤ 12 := h.2.2.2.2.1
theorem AtOK.kl {c : Nat} {A : AtS} (h : AtOK c A) : ∀ i, i < A.kn → A.kl i < 32 ∧ (∀ j, A.kw i = some j → j < c) := h.2.2.2.2.2
theorem at0_ok (c : Nat) : AtOK c at0 := ⟨Nat.zero_le _, Nat.le_refl _, Nat.zero_le _, Nat.le_refl _, Nat.zero_le _, fun i h => absurd h (Nat.not_lt_zero _)⟩
theorem ix192 {c p : Nat} (hc : c < 16) (hp : p < 12) : c * 12 + p < 192 := by omega
theorem readA_ok {T : TbS} {c r k : Nat} {A : AtS} (hk : k < 32) (hA : AtOK c A) (hp : A.p < 12) : (readA T c r k A).2.p = A.p ∧ (AtOK c (finA (readA T c r k A).2)) := by
  obtain ⟨h1, h2, h2', h3, h3', h4⟩ := hA
  unfold readA finA
  split
  · dsimp only [AtOK, mkAtS_p, mkAtS_fl, mkAtS_rg, mkAtS_wb, mkAtS_wv, mkAtS_kn, mkAtS_kl, mkAtS_kw, mkAtS_kr, mkAtS_kv, mkAtS_en, mkAtS_ev]
    exact ⟨rfl, by omega, by omega, h2', by omega, h3', h4⟩
  · split
    · dsimp only [AtOK, mkAtS_p, mkAtS_fl, mkAtS_rg, mkAtS_wb, mkAtS_wv, mkAtS_kn, mkAtS_kl, mkAtS_kw, mkAtS_kr, mkAtS_kv, mkAtS_en, mkAtS_ev]
      exact ⟨rfl, by omega, by omega, h2', by omega, h3', h4⟩
    · split
      · dsimp only [AtOK, mkAtS_p, mkAtS_fl, mkAtS_rg, mkAtS_wb, mkAtS_wv, mkAtS_kn, mkAtS_kl, mkAtS_kw, mkAtS_kr, mkAtS_kv, mkAtS_en, mkAtS_ev]
        exact ⟨rfl, by omega, by omega, h2', by omega, h3', h4⟩
      · dsimp only [AtOK, mkAtS_p, mkAtS_fl, mkAtS_rg, mkAtS_wb, mkAtS_wv, mkAtS_kn, mkAtS_kl, mkAtS_kw, mkAtS_kr, mkAtS_kv, mkAtS_en, mkAtS_ev]
        refine ⟨rfl, by omega, by omega, by omega, by omega, h3', fun i hi => ?_⟩
        by_cases e : i = A.kn
        · subst e
          rw [fup_s, fup_s]
          exact ⟨hk, fun j hj => (wbT_l hj).1⟩
        · rw [fup_n e, fup_n e]
          exact h4 i (by omega)
theorem perfA_ok {B : BkS} {c i : Nat} {A : AtS} (hB : BkOK B) (hi : i < 192) (hA : AtOK c A) (hp : A.p < 12) : AtOK c (finA (perfA (B.kd i) (B.lf i) (B.rt i) (B.vl i) A)) := by
  obtain ⟨h1, h2, h2', h3, h3', h4⟩ := hA
  have h6 := (hB.kd i hi).2.2.2
  unfold perfA finA
  repeat' split
  all_goals dsimp only [AtOK, mkAtS_p, mkAtS_fl, mkAtS_rg, mkAtS_wb, mkAtS_wv, mkAtS_kn, mkAtS_kl, mkAtS_kw, mkAtS_kr, mkAtS_kv, mkAtS_en, mkAtS_ev]
  all_goals first
    | exact ⟨by omega, by omega, h2', by omega, h3', h4⟩
    | exact ⟨by omega, by omega, h2', by omega, by omega, h4⟩
    | (obtain ⟨q, hq, e⟩ := h6 (by assumption)
       have e2 : (B.vl i).toInt32.toNatClampNeg = q := by rw [e, nI_clamp (by omega)]
       exact ⟨by omega, by omega, h2', by omega, h3', h4⟩)
theorem readA_some {T : TbS} {c r k j : Nat} {A A' : AtS} (h : readA T c r k A = (some j, A')) : A' = A ∧ wbT T k c = some j ∧ T.st j k = 2 := by
  unfold readA at h
  split at h
  · cases h
  · split at h
    · cases h
    · split at h
      · rename_i h3
        obtain ⟨h1, h2⟩ := Prod.mk.inj h
        rw [h1] at h3
        exact ⟨h2.symm, h1, by simpa [isPh] using h3⟩
      · cases h
theorem doA_ok {B : BkS} {T : TbS} {c : Nat} {A : AtS} (hB : BkOK B) (hc : c < 16) (hA : AtOK c A) (ho : ¬ overA B c A) : AtOK c (doA B T c A).2 := by
  have hp : A.p < 12 := by
    have := hB.ac c hc
    have : ¬ B.ac c ≤ A.p := fun z => ho (.inr z)
    omega
  unfold doA
  split
  · cases hr : readA T c (B.lf (c * 12 + A.p)) (lfA (B.vl (c * 12 + A.p) + A.rg (B.rt (c * 12 + A.p)))) A with
    | mk o A' =>
      cases o with
      | some j =>
        have := (readA_some hr).1
        show AtOK c A'
        rw [this]
        exact hA
      | none =>
        have h9 := (readA_ok (T := T) (c := c) (r := B.lf (c * 12 + A.p)) (lfA_l (B.vl (c * 12 + A.p) + A.rg (B.rt (c * 12 + A.p)))) hA hp).2
        rw [hr] at h9
        exact h9
  · exact perfA_ok hB (ix192 hc hp) hA hp
/-- bits of a mask -/
theorem bitT : ∀ k, k < 32 → (nI 1 <<< (nI k &&& 31)).toBitVec = BitVec.twoPow 32 k := by decide
theorem bit_iff {m : Int32} {k : Nat} (hk : k < 32) : m &&& (nI 1 <<< (nI k &&& 31)) = 0 ↔ m.toBitVec.getLsbD k = false := by
  have e : (m &&& (nI 1 <<< (nI k &&& 31))).toBitVec = m.toBitVec &&& BitVec.twoPow 32 k := by rw [Int32.toBitVec_and, bitT k hk]
  constructor
  · intro h
    have h2 := congrArg Int32.toBitVec h
    rw [e, BitVec.and_twoPow] at h2
    cases hb : m.toBitVec.getLsbD k with
    | false => rfl
    | true =>
      rw [hb, if_pos rfl] at h2
      have h3 := congrArg (fun z : BitVec 32 => z.getLsbD k) h2
      simp [BitVec.getLsbD_twoPow, hk] at h3
  · intro h
    apply Int32.toBitVec_inj.mp
    rw [e, BitVec.and_twoPow, h]
    rfl
theorem bit_or {m : Int32} {k j : Nat} (hk : k < 32) (hj : j < 32) : (m ||| (nI 1 <<< (nI k &&& 31))).toBitVec.getLsbD j = (m.toBitVec.getLsbD j || decide (j = k)) := by
  rw [Int32.toBitVec_or, bitT k hk, BitVec.getLsbD_or, BitVec.getLsbD_twoPow]
  by_cases h : j = k
  · subst h; simp [hj]
  · have : ¬ k = j := fun z => h z.symm
    simp [h, this]
theorem leaf31 (v : Int64) : (v &&& 31).toInt32 = nI (lfA v) := by
  unfold lfA nI
  apply Int32.toBitVec_inj.mp
  apply BitVec.eq_of_toNat_eq
  have h1 : ((v &&& 31).toInt32).toBitVec = (v &&& 31).toBitVec.signExtend 32 := rfl
  rw [h1, Int64.toBitVec_and]
  have h2 : (v.toBitVec &&& (31 : Int64).toBitVec) = BitVec.ofNat 64 (v.toBitVec.toNat % 32) := by
    apply BitVec.eq_of_toNat_eq
    rw [BitVec.toNat_and, BitVec.toNat_ofNat]
    show v.toBitVec.toNat &&& 31 = _
    rw [show (31 : Nat) = 2 ^ 5 - 1 from rfl, Nat.and_two_pow_sub_one_eq_mod]
    have : v.toBitVec.toNat % 2 ^ 5 < 2 ^ 5 := Nat.mod_lt _ (by decide)
    omega
  rw [h2]
  have h3 : ∀ m, m < 32 → ((BitVec.ofNat 64 m).signExtend 32).toNat = (Int32.ofNat m).toBitVec.toNat := by decide
  exact h3 _ (Nat.mod_lt _ (by decide))
