/-! ===== the reference keeps to the plain machine: acts ===== -/
def hI : Nat → Int32
  | 0 => 0
  | _ + 1 => 1
def pI : Nat → Int32
  | 2 => 1
  | _ => 0
abbrev RMat (σ : pST) (c : Nat) (A : AtS) : Prop := (σ.1 7 c = nI A.p) ∧ (σ.1 9 c = cond A.fl 1 0) ∧ (σ.1 12 c = nI A.kn) ∧ (σ.1 17 c = nI A.en) ∧ (∀ r, r < 4 → σ.2 8 (4 * c + r) = A.rg r) ∧ (∀ k, k < 32 → σ.1 10 (32 * c + k) = cond (A.wb k) 1 0) ∧ (∀ k, k < 32 → A.wb k = true → σ.2 11 (32 * c + k) = A.wv k) ∧ (∀ i, i < A.en → σ.2 18 (12 * c + i) = A.ev i) ∧ (∀ i, i < A.kn → σ.1 13 (32 * c + i) = nI (A.kl i) ∧ σ.1 14 (32 * c + i) = oI (A.kw i) ∧ (A.kw i ≠ none → σ.1 15 (32 * c + i) = nI (A.kr i)) ∧ σ.2 16 (32 * c + i) = A.kv (A.kl i))
theorem RMat.p {σ : pST} {c : Nat} {A : AtS} (h : RMat σ c A) : σ.1 7 c = nI A.p := h.1
theorem RMat.fl {σ : pST} {c : Nat} {A : AtS} (h : RMat σ c A) : σ.1 9 c = cond A.fl 1 0 := h.2.1
theorem RMat.kn {σ : pST} {c : Nat} {A : AtS} (h : RMat σ c A) : σ.1 12 c = nI A.kn := h.2.2.1
theorem RMat.en {σ : pST} {c : Nat} {A : AtS} (h : RMat σ c A) : σ.1 17 c = nI A.en := h.2.2.2.1
theorem RMat.rg {σ : pST} {c : Nat} {A : AtS} (h : RMat σ c A) : ∀ r, r < 4 → σ.2 8 (4 * c + r) = A.rg r := h.2.2.2.2.1
theorem RMat.wb {σ : pST} {c : Nat} {A : AtS} (h : RMat σ c A) : ∀ k, k < 32 → σ.1 10 (32 * c + k) = cond (A.wb k) 1 0 := h.2.2.2.2.2.1
theorem RMat.wv {σ : pST} {c : Nat} {A : AtS} (h : RMat σ c A) : ∀ k, k < 32 → A.wb k = true → σ.2 11 (32 * c + k) = A.wv k := h.2.2.2.2.2.2.1
theorem RMat.ev {σ : pST} {c : Nat} {A : AtS} (h : RMat σ c A) : ∀ i, i < A.en → σ.2 18 (12 * c + i) = A.ev i := h.2.2.2.2.2.2.2.1
theorem RMat.kl {σ : pST} {c : Nat} {A : AtS} (h : RMat σ c A) : ∀ i, i < A.kn → σ.1 13 (32 * c + i) = nI (A.kl i) ∧ σ.1 14 (32 * c + i) = oI (A.kw i) ∧ (A.kw i ≠ none → σ.1 15 (32 * c + i) = nI (A.kr i)) ∧ σ.2 16 (32 * c + i) = A.kv (A.kl i) := h.2.2.2.2.2.2.2.2
abbrev RMbk (σ : pST) (B : BkS) : Prop := (σ.1 0 1 = nI B.n) ∧ (∀ c, c < 16 → σ.1 2 c = nI (B.ac c)) ∧ (∀ i, i < 192 → σ.1 3 i = nI (B.kd i) ∧ σ.1 4 i = nI (B.lf i) ∧ σ.1 5 i = nI (B.rt i) ∧ σ.2 6 i = B.vl i)
theorem RMbk.n {σ : pST} {B : BkS} (h : RMbk σ B) : σ.1 0 1 = nI B.n := h.1
theorem RMbk.ac {σ : pST} {B : BkS} (h : RMbk σ B) : ∀ c, c < 16 → σ.1 2 c = nI (B.ac c) := h.2.1
theorem RMbk.kd {σ : pST} {B : BkS} (h : RMbk σ B) : ∀ i, i < 192 → σ.1 3 i = nI (B.kd i) ∧ σ.1 4 i = nI (B.lf i) ∧ σ.1 5 i = nI (B.rt i) ∧ σ.2 6 i = B.vl i := h.2.2
abbrev RMtb (σ : pST) (T : TbS) (m : Nat) : Prop := (∀ k j, k < 32 → j < m → σ.1 21 (32 * j + k) = hI (T.st j k) ∧ σ.1 22 (32 * j + k) = pI (T.st j k) ∧ T.st j k ≤ 2) ∧ (∀ k j, k < 32 → j < m → T.st j k ≠ 0 → σ.1 24 (32 * j + k) = nI (T.nm j k) ∧ σ.2 23 (32 * j + k) = T.vl j k) ∧ (∀ k, k < 32 → σ.2 1 k = T.bf k)
theorem RMtb.st {σ : pST} {T : TbS} {m : Nat} (h : RMtb σ T m) : ∀ k j, k < 32 → j < m → σ.1 21 (32 * j + k) = hI (T.st j k) ∧ σ.1 22 (32 * j + k) = pI (T.st j k) ∧ T.st j k ≤ 2 := h.1
theorem RMtb.nv {σ : pST} {T : TbS} {m : Nat} (h : RMtb σ T m) : ∀ k j, k < 32 → j < m → T.st j k ≠ 0 → σ.1 24 (32 * j + k) = nI (T.nm j k) ∧ σ.2 23 (32 * j + k) = T.vl j k := h.2.1
theorem RMtb.bf {σ : pST} {T : TbS} {m : Nat} (h : RMtb σ T m) : ∀ k, k < 32 → σ.2 1 k = T.bf k := h.2.2
abbrev inC (c x y : Nat) : Prop := (x = 7 ∧ y = c) ∨ (x = 9 ∧ y = c) ∨ (x = 12 ∧ y = c) ∨ (x = 17 ∧ y = c) ∨ (x = 20 ∧ y = c) ∨ (x = 8 ∧ 4 * c ≤ y ∧ y < 4 * c + 4) ∨ ((x = 10 ∨ x = 11 ∨ x = 13 ∨ x = 14 ∨ x = 15 ∨ x = 16) ∧ 32 * c ≤ y ∧ y < 32 * c + 32) ∨ (x = 18 ∧ 12 * c ≤ y ∧ y < 12 * c + 12) ∨ (x = 0 ∧ (y = 22 ∨ y = 27 ∨ y = 28 ∨ y = 29 ∨ y = 30))
abbrev FrM (σ ρ : pST) (c : Nat) : Prop := ∀ x y, ¬ inC c x y → ρ.1 x y = σ.1 x y ∧ ρ.2 x y = σ.2 x y
theorem rm_other {σ ρ : pST} {c d : Nat} {A : AtS} (hf : FrM σ ρ c) (hd : d ≠ c) (hA : AtOK d A) (h : RMat σ d A) : RMat ρ d A := by
  have hk := hA.k12
  have he := hA.e12
  refine ⟨?_, ?_, ?_, ?_, ?_, ?_, ?_, ?_, ?_⟩
  · rw [(hf 7 d (by omega)).1]; exact h.p
  · rw [(hf 9 d (by omega)).1]; exact h.fl
  · rw [(hf 12 d (by omega)).1]; exact h.kn
  · rw [(hf 17 d (by omega)).1]; exact h.en
  · intro r hr; rw [(hf 8 (4 * d + r) (by omega)).2]; exact h.rg r hr
  · intro k hk; rw [(hf 10 (32 * d + k) (by omega)).1]; exact h.wb k hk
  · intro k hk; rw [(hf 11 (32 * d + k) (by omega)).2]; exact h.wv k hk
  · intro i hi; rw [(hf 18 (12 * d + i) (by omega)).2]; exact h.ev i hi
  · intro i hi; rw [(hf 13 (32 * d + i) (by omega)).1, (hf 14 (32 * d + i) (by omega)).1, (hf 15 (32 * d + i) (by omega)).1, (hf 16 (32 * d + i) (by omega)).2]; exact h.kl i hi
def ruT (T : TbS) (k : Nat) : Option Nat → Int32
  | none => 0
  | some j => nI (T.nm j k)
theorem rm_see {σ : pST} {T : TbS} {m k : Nat} (h : RMtb σ T m) (hk : k < 32) : ∀ c, c ≤ m → (seeS σ k c).1 0 27 = oI (wbT T k c) ∧ (seeS σ k c).1 0 28 = ruT T k (wbT T k c) ∧ (seeS σ k c).1 0 29 = cond (isPh T k (wbT T k c)) 1 0 ∧ (seeS σ k c).2 0 30 = svT T k (wbT T k c)
  | 0, _ => by
    unfold seeS
    simp [pm_ui_a, pm_uj_a, wbT, oI, ruT, isPh, svT, h.bf k hk]
  | c + 1, hc => by
    have ih := rm_see h hk c (by omega)
    obtain ⟨h1, h2, h3⟩ := h.st k c hk (by omega)
    unfold seeS wbT
    by_cases e : T.st c k = 0
    · rw [if_pos (by rw [h1, e]; rfl), if_pos e]
      exact ih
    · have h4 := h.nv k c hk (by omega) e
      rw [if_neg (by rw [h1]; cases hz : T.st c k with
        | zero => exact absurd hz e
        | succ z => exact (by decide : ¬ (1 : Int32) = 0)), if_neg e]
      have h12 : T.st c k = 1 ∨ T.st c k = 2 := by omega
      rcases h12 with e1 | e1
      · simp [pm_ui_a, pm_uj_a, oI, ruT, isPh, svT, h2, h4.1, h4.2, e1, pI]
      · simp [pm_ui_a, pm_uj_a, oI, ruT, isPh, svT, h2, h4.1, h4.2, e1, pI]
theorem seeS_f {σ : pST} {k : Nat} : ∀ c x y, ¬ (x = 0 ∧ (y = 27 ∨ y = 28 ∨ y = 29 ∨ y = 30)) → (seeS σ k c).1 x y = σ.1 x y ∧ (seeS σ k c).2 x y = σ.2 x y
  | 0, x, y, h => by
    unfold seeS
    simp only [pm_ui_a, pm_uj_a]
    rw [if_neg (by omega), if_neg (by omega), if_neg (by omega), if_neg (by omega)]
    exact ⟨by trivial, by trivial⟩
  | c + 1, x, y, h => by
    unfold seeS
    split
    · exact seeS_f c x y h
    · simp only [pm_ui_a, pm_uj_a]
      rw [if_neg (by omega), if_neg (by omega), if_neg (by omega), if_neg (by omega)]
      exact seeS_f c x y h
theorem fin_f {σ ρ : pST} {c : Nat} (h : FrM σ ρ c) : FrM σ (finM ρ c) c := by
  intro x y q
  unfold finM
  simp only [pm_ui_a]
  rw [if_neg (by omega), if_neg (by omega), if_neg (by omega)]
  exact h x y q
theorem fin_at {ρ : pST} {c : Nat} {A : AtS} (h : RMat ρ c A) : RMat (finM ρ c) c (finA A) := by
  unfold finM finA
  refine ⟨?_, ?_, ?_, ?_, h.rg, ?_, h.wv, h.ev, ?_⟩
  all_goals simp only [pm_ui_a, mkAtS_p, mkAtS_fl, mkAtS_rg, mkAtS_wb, mkAtS_wv, mkAtS_kn, mkAtS_kl, mkAtS_kw, mkAtS_kr, mkAtS_kv, mkAtS_en, mkAtS_ev]
  · simp [h.p, nI_1]
  · simpa using h.fl
  · simpa using h.kn
  · simpa using h.en
  · simpa using h.wb
  · simpa using h.kl
theorem fin_d {σ ρ : pST} {c : Nat} (h1 : ρ.1 0 22 = σ.1 0 22) (h2 : ρ.1 20 c = σ.1 20 c) : (finM ρ c).1 0 22 = σ.1 0 22 + 1 ∧ (finM ρ c).1 20 c = σ.1 20 c + 1 := by
  unfold finM
  simp [pm_ui_a, h1, h2]
theorem rm_rg {σ : pST} {c r : Nat} {A : AtS} {v : Int64} (hr : r < 4) (h : RMat σ c A) : RMat (σ.1, pm_uj σ.2 8 (4 * c + r) v) c (mkAtS A.p A.fl (fup A.rg r v) A.wb A.wv A.kn A.kl A.kw A.kr A.kv A.en A.ev) := by
  refine ⟨h.p, h.fl, h.kn, h.en, ?_, h.wb, ?_, ?_, ?_⟩
  all_goals simp only [pm_uj_a, mkAtS_p, mkAtS_fl, mkAtS_rg, mkAtS_wb, mkAtS_wv, mkAtS_kn, mkAtS_kl, mkAtS_kw, mkAtS_kr, mkAtS_kv, mkAtS_en, mkAtS_ev]
  · intro r' hr'
    unfold fup
    by_cases e : r' = r
    · simp [e]
    · rw [if_neg (by omega), if_neg e]
      exact h.rg r' hr'
  · simpa using h.wv
  · simpa using h.ev
  · simpa using h.kl
theorem fm_rg {σ : pST} {c r : Nat} {v : Int64} (hr : r < 4) : FrM σ (σ.1, pm_uj σ.2 8 (4 * c + r) v) c := by
  intro x y q
  simp only [pm_uj_a]
  rw [if_neg (by omega)]
  exact ⟨by trivial, by trivial⟩
theorem fm_refl {σ : pST} {c : Nat} : FrM σ σ c := fun _ _ _ => ⟨rfl, rfl⟩
theorem least_kept {A : AtS} {k : Nat} (h : keptA A k) : ∃ m, m < A.kn ∧ A.kl m = k ∧ ∀ i, i < m → A.kl i ≠ k := by
  obtain ⟨m, ⟨h1, h2⟩, h3⟩ := pk_least (fun i => i < A.kn ∧ A.kl i = k) h
  exact ⟨m, h1, h2, fun i hi e => h3 i hi ⟨by omega, e⟩⟩
theorem rm_kp {σ τ : pST} {c l r ru' : Nat} {ru : Int32} {A : AtS} {o : Option Nat} {v : Int64} (hk : A.kn < 12) (hr : r < 4) (hn : ¬ keptA A l) (h : RMat σ c A) (hτ : ∀ x y, x ≠ 0 → τ.1 x y = σ.1 x y ∧ τ.2 x y = σ.2 x y) (hru : o ≠ none → ru = nI ru') : RMat (pm_ui (pm_ui (pm_ui (pm_ui τ.1 13 (32 * c + A.kn) (nI l)) 14 (32 * c + A.kn) (oI o)) 15 (32 * c + A.kn) ru) 12 c (nI (A.kn + 1)), pm_uj (pm_uj τ.2 16 (32 * c + A.kn) v) 8 (4 * c + r) v) c (mkAtS A.p A.fl (fup A.rg r v) A.wb A.wv (A.kn + 1) (fup A.kl A.kn l) (fup A.kw A.kn o) (fup A.kr A.kn ru') (fup A.kv l v) A.en A.ev) := by
  refine ⟨?_, ?_, ?_, ?_, ?_, ?_, ?_, ?_, ?_⟩
  all_goals simp only [pm_ui_a, pm_uj_a, mkAtS_p, mkAtS_fl, mkAtS_rg, mkAtS_wb, mkAtS_wv, mkAtS_kn, mkAtS_kl, mkAtS_kw, mkAtS_kr, mkAtS_kv, mkAtS_en, mkAtS_ev]
  · simpa [(hτ 7 c (by decide)).1] using h.p
  · simpa [(hτ 9 c (by decide)).1] using h.fl
  · simp
  · simpa [(hτ 17 c (by decide)).1] using h.en
  · intro r' hr'
    unfold fup
    by_cases e : r' = r
    · simp [e]
    · rw [if_neg (by omega), if_neg (by omega), if_neg e, (hτ 8 _ (by decide)).2]
      exact h.rg r' hr'
  · intro k hk
    simpa [(hτ 10 (32 * c + k) (by decide)).1] using h.wb k hk
  · intro k hk
    simpa [(hτ 11 (32 * c + k) (by decide)).2] using h.wv k hk
  · intro i hi
    simpa [(hτ 18 (12 * c + i) (by decide)).2] using h.ev i hi
  · intro i hi
    by_cases e : i = A.kn
    · subst e
      simp [fup_s]
      exact hru
    · have hi2 : i < A.kn := by omega
      obtain ⟨h1, h2, h3, h4⟩ := h.kl i hi2
      have hne : A.kl i ≠ l := fun z => hn ⟨i, hi2, z⟩
      have e' : ¬ 32 * c + i = 32 * c + A.kn := by omega
      simp only [fup_n e, fup_n hne, e, e', and_false, if_false, (hτ 13 (32 * c + i) (by decide)).1, (hτ 14 (32 * c + i) (by decide)).1, (hτ 15 (32 * c + i) (by decide)).1, (hτ 16 (32 * c + i) (by decide)).2]
      simp
      exact ⟨h1, h2, h3, h4⟩
theorem rm_doAct {σ : pST} {c : Nat} {A : AtS} {B : BkS} {T : TbS} (hB : BkOK B) (hb : RMbk σ B) (hT : RMtb σ T c) (h22 : ∀ y, σ.1 22 y = 0 ∨ σ.1 22 y = 1) (h : RMat σ c A) (hk : AtOK c A) (hc : c < B.n) (ho : ¬ overA B c A) : ∃ ρ, kX8_doAct σ [.inr (.inr 0), .inl (nI c)] = some (ρ, some (.inl (oI (doA B T c A).1))) ∧ RMat ρ c (doA B T c A).2 ∧ FrM σ ρ c ∧ ρ.1 0 22 = (if (doA B T c A).1 = none then σ.1 0 22 + 1 else σ.1 0 22) ∧ ρ.1 20 c = (if (doA B T c A).1 = none then σ.1 20 c + 1 else σ.1 20 c) := by
  have hn := hB.n
  have hc16 : c < 16 := by omega
  have hacl := hB.ac c hc16
  have hkn := hk.kn
  have hen := hk.en
  have hp : A.p < B.ac c := by
    have : ¬ B.ac c ≤ A.p := fun z => ho (.inr z)
    omega
  have hp12 : A.p < 12 := by omega
  have hf : A.fl = false := by
    cases e : A.fl with
    | false => rfl
    | true => exact absurd (.inl e) ho
  have hi := ix192 hc16 hp12
  obtain ⟨b1, b2, b3, b4⟩ := hB.kd _ hi
  obtain ⟨c1, c2, c3, c4⟩ := hb.kd _ hi
  unfold doA
  rw [Nat.mul_comm c 12] at *
  generalize hr : B.lf (12 * c + A.p) = r at *
  generalize hs : B.rt (12 * c + A.p) = s at *
  generalize hv : B.vl (12 * c + A.p) = v at *
  generalize hkd : B.kd (12 * c + A.p) = kd at *
  have hgr := h.rg r b2
  have hgs := h.rg s b3
  have hlf : lfA (σ.2 6 (12 * c + A.p) + σ.2 8 (4 * c + s)) = lfA (v + A.rg s) := by rw [c4, hgs]
  have hll := lfA_l (v + A.rg s)
  have fin2 : ∀ {ρ : pST} {A' : AtS}, ρ.1 0 22 = σ.1 0 22 → ρ.1 20 c = σ.1 20 c → RMat ρ c A' → FrM σ ρ c → RMat (finM ρ c) c (finA A') ∧ FrM σ (finM ρ c) c ∧ (finM ρ c).1 0 22 = (if (none : Option Nat) = none then σ.1 0 22 + 1 else σ.1 0 22) ∧ (finM ρ c).1 20 c = (if (none : Option Nat) = none then σ.1 20 c + 1 else σ.1 20 c) := by
    intro ρ A' e1 e2 e3 e4
    exact ⟨fin_at e3, fin_f e4, by simpa using fin_d e1 e2⟩
  by_cases h1 : kd = 1
  · rw [if_pos h1]
    subst h1
    generalize hle : lfA (v + A.rg s) = l at *
    unfold readA
    by_cases w1 : A.wb l = true
    · rw [if_pos w1]
      have e9 := ev_X8_doAct_1w σ hc16 h.p hp12 b2 b3 c2 c3 c1 hll hlf (by rw [h.wb l hll, w1]; decide)
      refine ⟨_, e9, fin2 rfl rfl ?_ (fm_rg b2)⟩
      rw [h.wv l hll w1]
      exact rm_rg b2 h
    · rw [if_neg w1]
      have w0 : σ.1 10 (32 * c + l) = 0 := by rw [h.wb l hll]; simp [w1]
      by_cases w2 : keptA A l
      · rw [if_pos w2]
        obtain ⟨m, m1, m2, m3⟩ := least_kept w2
        have e9 := ev_X8_doAct_1k σ hc16 h.p hp12 b2 b3 c2 c3 c1 hll hlf w0 h.kn hk.k12 (fun i hi => (h.kl i hi).1) (fun i hi => (hk.kl i hi).1) m3 m1 m2
        refine ⟨_, e9, fin2 rfl rfl ?_ (fm_rg b2)⟩
        have h4 := (h.kl m m1).2.2.2
        rw [m2] at h4
        rw [h4]
        exact rm_rg b2 h
      · rw [if_neg w2]
        obtain ⟨s1, s2, s3, s4⟩ := rm_see hT hll c (Nat.le_refl c)
        by_cases w3 : isPh T l (wbT T l c) = true
        · rw [if_pos w3]
          rw [w3] at s3
          have e9 := ev_X8_doAct_1p σ hc16 h.p hp12 b2 b3 c2 c3 c1 hll hlf w0 h.kn hk.k12 (fun i hi => (h.kl i hi).1) (fun i hi => (hk.kl i hi).1) (fun i hi e => w2 ⟨i, hi, e⟩) rfl h22 s3 s1 s2 s4 (by decide)
          cases hw : wbT T l c with
          | none => rw [hw] at w3; exact absurd w3 Bool.false_ne_true
          | some j =>
            rw [hw] at e9
            refine ⟨_, e9, ?_, fun x y q => seeS_f c x y (by omega), ?_, ?_⟩
            · obtain ⟨q1, q2, q3, q4, q5, q6, q7, q8, q9⟩ := h
              refine ⟨?_, ?_, ?_, ?_, ?_, ?_, ?_, ?_, ?_⟩
              · rw [(seeS_f c 7 _ (by omega)).1]; exact q1
              · rw [(seeS_f c 9 _ (by omega)).1]; exact q2
              · rw [(seeS_f c 12 _ (by omega)).1]; exact q3
              · rw [(seeS_f c 17 _ (by omega)).1]; exact q4
              · intro r hr; rw [(seeS_f c 8 _ (by omega)).2]; exact q5 r hr
              · intro k hk; rw [(seeS_f c 10 _ (by omega)).1]; exact q6 k hk
              · intro k hk; rw [(seeS_f c 11 _ (by omega)).2]; exact q7 k hk
              · intro i hi; rw [(seeS_f c 18 _ (by omega)).2]; exact q8 i hi
              · intro i hi; rw [(seeS_f c 13 _ (by omega)).1, (seeS_f c 14 _ (by omega)).1, (seeS_f c 15 _ (by omega)).1, (seeS_f c 16 _ (by omega)).2]; exact q9 i hi
            · simpa using (seeS_f c 0 22 (by omega)).1
            · simpa using (seeS_f c 20 c (by omega)).1
        · rw [if_neg w3]
          have w3' : isPh T l (wbT T l c) = false := by simpa using w3
          rw [w3'] at s3
          have e9 := ev_X8_doAct_1s σ hc16 h.p hp12 b2 b3 c2 c3 c1 hll hlf w0 h.kn hk.k12 (fun i hi => (h.kl i hi).1) (fun i hi => (hk.kl i hi).1) (fun i hi e => w2 ⟨i, hi, e⟩) rfl h22 s3 s1 s2 s4 rfl
          refine ⟨_, e9, fin2 ?_ ?_ ?_ ?_⟩
          · simpa [pm_ui_a] using (seeS_f c 0 22 (by omega)).1
          · simpa [pm_ui_a] using (seeS_f c 20 c (by omega)).1
          · refine rm_kp (by omega) b2 w2 h (fun x y hx => seeS_f c x y (by omega)) (fun ho => ?_)
            cases hw : wbT T l c with
            | none => exact absurd hw ho
            | some j => rfl
          · intro x y q
            simp only [pm_ui_a, pm_uj_a]
            rw [if_neg (by omega), if_neg (by omega), if_neg (by omega), if_neg (by omega), if_neg (by omega), if_neg (by omega)]
            exact seeS_f c x y (by omega)
  · rw [if_neg h1]
    have hcase : kd = 0 ∨ kd = 2 ∨ kd = 3 ∨ kd = 4 ∨ kd = 5 ∨ kd = 6 ∨ kd = 7 ∨ kd = 8 := by omega
    rcases hcase with rfl | rfl | rfl | rfl | rfl | rfl | rfl | rfl
    · refine ⟨_, ev_X8_doAct_0 σ hc16 h.p hp12 b2 b3 c2 c3 c1, fin2 rfl rfl ?_ (fm_rg b2)⟩
      rw [c4]
      exact rm_rg b2 h
    · refine ⟨_, ev_X8_doAct_2 σ hc16 h.p hp12 b2 b3 c2 c3 c1 hll hlf, fin2 (by simp [pm_ui_a]) (by simp [pm_ui_a]) ?_ ?_⟩
      · show RMat _ c (mkAtS A.p A.fl A.rg (fup A.wb (lfA (v + A.rg s)) true) (fup A.wv (lfA (v + A.rg s)) (A.rg r)) A.kn A.kl A.kw A.kr A.kv A.en A.ev)
        refine ⟨?_, ?_, ?_, ?_, ?_, ?_, ?_, ?_, ?_⟩
        all_goals simp only [pm_ui_a, pm_uj_a, mkAtS_p, mkAtS_fl, mkAtS_rg, mkAtS_wb, mkAtS_wv, mkAtS_kn, mkAtS_kl, mkAtS_kw, mkAtS_kr, mkAtS_kv, mkAtS_en, mkAtS_ev]
        · simpa using h.p
        · simpa using h.fl
        · simpa using h.kn
        · simpa using h.en
        · simpa using h.rg
        · intro k hk
          unfold fup
          by_cases e : k = lfA (v + A.rg s)
          · simp [e]; rfl
          · rw [if_neg (by omega), if_neg e]
            exact h.wb k hk
        · intro k hk
          unfold fup
          by_cases e : k = lfA (v + A.rg s)
          · simp [e, hgr]
          · rw [if_neg e, if_neg e, if_neg (by omega)]
            exact h.wv k hk
        · simpa using h.ev
        · simpa using h.kl
      · intro x y q
        simp only [pm_ui_a, pm_uj_a]
        rw [if_neg (by omega), if_neg (by omega)]
        exact ⟨by trivial, by trivial⟩
    · refine ⟨_, ev_X8_doAct_3 σ hc16 h.p hp12 b2 b3 c2 c3 c1, fin2 rfl rfl ?_ (fm_rg b2)⟩
      rw [hgr, hgs]
      exact rm_rg b2 h
    · refine ⟨_, ev_X8_doAct_4 σ hc16 h.p hp12 b2 b3 c2 c3 c1, fin2 rfl rfl ?_ (fm_rg b2)⟩
      rw [hgr, hgs]
      exact rm_rg b2 h
    · refine ⟨_, ev_X8_doAct_5 σ hc16 h.p hp12 b2 b3 c2 c3 c1, fin2 rfl rfl ?_ (fm_rg b2)⟩
      rw [hgr, hgs]
      exact rm_rg b2 h
    · by_cases hlt : lg_cmp (A.rg r) (A.rg s) < 0
      · have e9 := ev_X8_doAct_6t σ hc16 h.p hp12 b2 b3 c2 c3 c1 (by rw [hgr, hgs]; exact hlt)
        refine ⟨_, e9, fin2 (by simp [pm_ui_a]) (by simp [pm_ui_a]) ?_ ?_⟩
        · show RMat _ c (if lg_cmp (A.rg r) (A.rg s) < 0 then (mkAtS (A.p + v.toInt32.toNatClampNeg) A.fl A.rg A.wb A.wv A.kn A.kl A.kw A.kr A.kv A.en A.ev) else A)
          rw [if_pos hlt]
          obtain ⟨q, hq, e⟩ := b4 rfl
          refine ⟨?_, ?_, ?_, ?_, h.rg, ?_, h.wv, h.ev, ?_⟩
          all_goals simp only [pm_ui_a, mkAtS_p, mkAtS_fl, mkAtS_rg, mkAtS_wb, mkAtS_wv, mkAtS_kn, mkAtS_kl, mkAtS_kw, mkAtS_kr, mkAtS_kv, mkAtS_en, mkAtS_ev]
          · rw [c4, e, nI_clamp (by omega), h.p, nI_add]
            simp
          · simpa using h.fl
          · simpa using h.kn
          · simpa using h.en
          · simpa using h.wb
          · simpa using h.kl
        · intro x y q
          simp only [pm_ui_a]
          rw [if_neg (by omega)]
          exact ⟨by trivial, by trivial⟩
      · have e9 := ev_X8_doAct_6f σ hc16 h.p hp12 b2 b3 c2 c3 c1 (by rw [hgr, hgs]; exact hlt)
        refine ⟨_, e9, fin2 rfl rfl ?_ fm_refl⟩
        show RMat _ c (if lg_cmp (A.rg r) (A.rg s) < 0 then (mkAtS (A.p + v.toInt32.toNatClampNeg) A.fl A.rg A.wb A.wv A.kn A.kl A.kw A.kr A.kv A.en A.ev) else A)
        rw [if_neg hlt]
        exact h
    · have e9 := ev_X8_doAct_7 σ hc16 h.p hp12 b2 b3 c2 c3 c1 h.en (by omega)
      refine ⟨_, e9, fin2 (by simp [pm_ui_a]) (by simp [pm_ui_a]) ?_ ?_⟩
      · show RMat _ c (mkAtS A.p A.fl A.rg A.wb A.wv A.kn A.kl A.kw A.kr A.kv (A.en + 1) (fup A.ev A.en (A.rg r)))
        refine ⟨?_, ?_, ?_, ?_, ?_, ?_, ?_, ?_, ?_⟩
        all_goals simp only [pm_ui_a, pm_uj_a, mkAtS_p, mkAtS_fl, mkAtS_rg, mkAtS_wb, mkAtS_wv, mkAtS_kn, mkAtS_kl, mkAtS_kw, mkAtS_kr, mkAtS_kv, mkAtS_en, mkAtS_ev]
        · simpa using h.p
        · simpa using h.fl
        · simpa using h.kn
        · simp
        · simpa using h.rg
        · simpa using h.wb
        · simpa using h.wv
        · intro i hi
          unfold fup
          by_cases e : i = A.en
          · simp [e, hgr]
          · rw [if_neg (by omega), if_neg e]
            exact h.ev i (by omega)
        · simpa using h.kl
      · intro x y q
        simp only [pm_ui_a, pm_uj_a]
        rw [if_neg (by omega), if_neg (by omega)]
        exact ⟨by trivial, by trivial⟩
    · by_cases hlt : lg_cmp (A.rg r) 0 < 0
      · have e9 := ev_X8_doAct_8t σ hc16 h.p hp12 b2 b3 c2 c3 c1 (by rw [hgr]; exact hlt)
        refine ⟨_, e9, fin2 (by simp [pm_ui_a]) (by simp [pm_ui_a]) ?_ ?_⟩
        · show RMat _ c (if lg_cmp (A.rg r) 0 < 0 then (mkAtS A.p (true) A.rg A.wb A.wv A.kn A.kl A.kw A.kr A.kv A.en A.ev) else A)
          rw [if_pos hlt]
          refine ⟨?_, ?_, ?_, ?_, h.rg, ?_, h.wv, h.ev, ?_⟩
          all_goals simp only [pm_ui_a, mkAtS_p, mkAtS_fl, mkAtS_rg, mkAtS_wb, mkAtS_wv, mkAtS_kn, mkAtS_kl, mkAtS_kw, mkAtS_kr, mkAtS_kv, mkAtS_en, mkAtS_ev]
          · simpa using h.p
          · simp; rfl
          · simpa using h.kn
          · simpa using h.en
          · simpa using h.wb
          · simpa using h.kl
        · intro x y q
          simp only [pm_ui_a]
          rw [if_neg (by omega)]
          exact ⟨by trivial, by trivial⟩
      · have e9 := ev_X8_doAct_8f σ hc16 h.p hp12 b2 b3 c2 c3 c1 (by rw [hgr]; exact hlt)
        refine ⟨_, e9, fin2 rfl rfl ?_ fm_refl⟩
        show RMat _ c (if lg_cmp (A.rg r) 0 < 0 then (mkAtS A.p (true) A.rg A.wb A.wv A.kn A.kl A.kw A.kr A.kv A.en A.ev) else A)
        rw [if_neg hlt]
        exact h
theorem rm_isOver {σ : pST} {c : Nat} {A : AtS} {B : BkS} (hB : BkOK B) (hb : RMbk σ B) (h : RMat σ c A) (hk : AtOK c A) (hc : c < B.n) : kX8_isOver σ [.inr (.inr 0), .inl (nI c)] = some (σ, some (.inl (if overA B c A then 1 else 0))) := by
  have hn := hB.n
  have hp := hk.p
  rw [ev_X8_isOver σ (show c < 16 by omega) h.p (hb.ac c (by omega)) (by omega) (hB.ac c (by omega)), h.fl]
  by_cases ho : overA B c A
  · rw [if_pos ho, if_neg]
    rintro ⟨z1, z3⟩
    rcases ho with ho | ho
    · rw [ho] at z1; exact absurd z1 (by decide)
    · omega
  · rw [if_neg ho, if_pos]
    have hf : A.fl = false := by
      cases e : A.fl with
      | false => rfl
      | true => exact absurd (.inl e) ho
    refine ⟨by rw [hf]; rfl, ?_⟩
    have : ¬ B.ac c ≤ A.p := fun z => ho (.inr z)
    omega
theorem rm_begin {σ : pST} {c : Nat} (hc : c < 16) : ∃ ρ, kX8_begin σ [.inr (.inr 0), .inl (nI c)] = some (ρ, none) ∧ RMat ρ c at0 ∧ (∀ x y, ¬ inC c x y → ¬ (x = 19 ∧ y = c) → ρ.1 x y = σ.1 x y ∧ ρ.2 x y = σ.2 x y) ∧ ρ.1 19 c = σ.1 19 c + 1 ∧ ρ.1 20 c = 0 ∧ ρ.1 0 22 = σ.1 0 22 := by
  refine ⟨_, ev_X8_begin σ hc, ⟨?_, ?_, ?_, ?_, ?_, ?_, ?_, ?_, ?_⟩, fun x y q1 q2 => ⟨?_, ?_⟩, ?_, ?_, ?_⟩
  all_goals try (simp [begM, rngI, rngJ, pm_ui_a, at0, mkAtS_p, mkAtS_fl, mkAtS_rg, mkAtS_wb, mkAtS_wv, mkAtS_kn, mkAtS_kl, mkAtS_kw, mkAtS_kr, mkAtS_kv, mkAtS_en, mkAtS_ev, nI_0]; done)
  · intro r hr
    show rngJ σ.2 8 (4 * c) 4 0 8 (4 * c + r) = 0
    exact if_pos ⟨rfl, by omega, by omega⟩
  · intro k hk
    show rngI _ 10 (32 * c) 32 0 10 (32 * c + k) = 0
    exact if_pos ⟨rfl, by omega, by omega⟩
  · show rngI _ 10 (32 * c) 32 0 x y = _
    unfold rngI
    simp only [pm_ui_a]
    rw [if_neg (by omega), if_neg (by omega), if_neg (by omega), if_neg (by omega), if_neg (by omega), if_neg (by omega), if_neg (by omega)]
  · show rngJ σ.2 8 (4 * c) 4 0 x y = _
    unfold rngJ
    rw [if_neg (by omega)]
