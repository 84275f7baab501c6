/-! ===== the class keeps to the plain machine: acts ===== -/
def kI : Option Nat → Nat → Int32
  | none, _ => -1
  | some _, r => nI r
abbrev RXat (σ : pST) (a : Nat) (c : Nat) (A : AtS) : Prop := (σ.1 a 0 = nI c) ∧ (σ.1 a 10 = nI A.p) ∧ (σ.1 a 4 = cond A.fl 1 0) ∧ (σ.1 a 5 = nI A.kn) ∧ (σ.1 a 6 = nI (cond A.fl 0 A.en)) ∧ (∀ r, r < 4 → σ.2 (a + 3) r = A.rg r) ∧ (∀ k, k < 32 → (σ.1 a 12).toBitVec.getLsbD k = (A.wb k && !A.fl)) ∧ (∀ k, k < 32 → A.wb k = true → σ.2 (a + 1) k = A.wv k) ∧ (∀ i, i < A.en → σ.2 (a + 2) i = A.ev i) ∧ (∀ i, i < A.kn → σ.1 (a + 5) i = nI (A.kl i) ∧ σ.1 (a + 6) i = oI (A.kw i) ∧ σ.1 (a + 7) i = kI (A.kw i) (A.kr i) ∧ σ.2 (a + 4) (A.kl i) = A.kv (A.kl i)) ∧ (∀ k, k < 32 → ((σ.1 a 11).toBitVec.getLsbD k = true ↔ keptA A k))
theorem RXat.s0 {σ : pST} {a : Nat} {c : Nat} {A : AtS} (h : RXat σ a c A) : σ.1 a 0 = nI c := h.1
theorem RXat.p {σ : pST} {a : Nat} {c : Nat} {A : AtS} (h : RXat σ a c A) : σ.1 a 10 = nI A.p := h.2.1
theorem RXat.fl {σ : pST} {a : Nat} {c : Nat} {A : AtS} (h : RXat σ a c A) : σ.1 a 4 = cond A.fl 1 0 := h.2.2.1
theorem RXat.kn {σ : pST} {a : Nat} {c : Nat} {A : AtS} (h : RXat σ a c A) : σ.1 a 5 = nI A.kn := h.2.2.2.1
theorem RXat.en {σ : pST} {a : Nat} {c : Nat} {A : AtS} (h : RXat σ a c A) : σ.1 a 6 = nI (cond A.fl 0 A.en) := h.2.2.2.2.1
theorem RXat.rg {σ : pST} {a : Nat} {c : Nat} {A : AtS} (h : RXat σ a c A) : ∀ r, r < 4 → σ.2 (a + 3) r = A.rg r := h.2.2.2.2.2.1
theorem RXat.wb {σ : pST} {a : Nat} {c : Nat} {A : AtS} (h : RXat σ a c A) : ∀ k, k < 32 → (σ.1 a 12).toBitVec.getLsbD k = (A.wb k && !A.fl) := h.2.2.2.2.2.2.1
theorem RXat.wv {σ : pST} {a : Nat} {c : Nat} {A : AtS} (h : RXat σ a c A) : ∀ k, k < 32 → A.wb k = true → σ.2 (a + 1) k = A.wv k := h.2.2.2.2.2.2.2.1
theorem RXat.ev {σ : pST} {a : Nat} {c : Nat} {A : AtS} (h : RXat σ a c A) : ∀ i, i < A.en → σ.2 (a + 2) i = A.ev i := h.2.2.2.2.2.2.2.2.1
theorem RXat.kl {σ : pST} {a : Nat} {c : Nat} {A : AtS} (h : RXat σ a c A) : ∀ i, i < A.kn → σ.1 (a + 5) i = nI (A.kl i) ∧ σ.1 (a + 6) i = oI (A.kw i) ∧ σ.1 (a + 7) i = kI (A.kw i) (A.kr i) ∧ σ.2 (a + 4) (A.kl i) = A.kv (A.kl i) := h.2.2.2.2.2.2.2.2.2.1
theorem RXat.km {σ : pST} {a : Nat} {c : Nat} {A : AtS} (h : RXat σ a c A) : ∀ k, k < 32 → ((σ.1 a 11).toBitVec.getLsbD k = true ↔ keptA A k) := h.2.2.2.2.2.2.2.2.2.2
abbrev RXbk (σ : pST) (B : BkS) : Prop := (σ.1 2 0 = nI B.n) ∧ (∀ c, c < 16 → σ.1 3 c = nI (B.ac c)) ∧ (∀ i, i < 192 → σ.1 4 i = nI (B.kd i) ∧ σ.1 5 i = nI (B.lf i) ∧ σ.1 6 i = nI (B.rt i) ∧ σ.2 7 i = B.vl i)
theorem RXbk.n {σ : pST} {B : BkS} (h : RXbk σ B) : σ.1 2 0 = nI B.n := h.1
theorem RXbk.ac {σ : pST} {B : BkS} (h : RXbk σ B) : ∀ c, c < 16 → σ.1 3 c = nI (B.ac c) := h.2.1
theorem RXbk.kd {σ : pST} {B : BkS} (h : RXbk σ B) : ∀ i, i < 192 → σ.1 4 i = nI (B.kd i) ∧ σ.1 5 i = nI (B.lf i) ∧ σ.1 6 i = nI (B.rt i) ∧ σ.2 7 i = B.vl i := h.2.2
abbrev RXtb (σ : pST) (t : Nat) (T : TbS) (m : Nat) : Prop := (∀ k j, k < 32 → j < m → σ.1 (t + 2) (k * 16 + j) = nI (T.st j k) ∧ T.st j k ≤ 2) ∧ (∀ k j, k < 32 → j < m → T.st j k ≠ 0 → σ.1 (t + 3) (k * 16 + j) = nI (T.nm j k) ∧ σ.2 (t + 4) (k * 16 + j) = T.vl j k) ∧ (∀ k, k < 32 → σ.2 (t + 1) k = T.bf k)
theorem RXtb.st {σ : pST} {t : Nat} {T : TbS} {m : Nat} (h : RXtb σ t T m) : ∀ k j, k < 32 → j < m → σ.1 (t + 2) (k * 16 + j) = nI (T.st j k) ∧ T.st j k ≤ 2 := h.1
theorem RXtb.nv {σ : pST} {t : Nat} {T : TbS} {m : Nat} (h : RXtb σ t T m) : ∀ k j, k < 32 → j < m → T.st j k ≠ 0 → σ.1 (t + 3) (k * 16 + j) = nI (T.nm j k) ∧ σ.2 (t + 4) (k * 16 + j) = T.vl j k := h.2.1
theorem RXtb.bf {σ : pST} {t : Nat} {T : TbS} {m : Nat} (h : RXtb σ t T m) : ∀ k, k < 32 → σ.2 (t + 1) k = T.bf k := h.2.2
abbrev FrO (σ : pST) (ρ : pST) (a : Nat) : Prop := (∀ x, x < a ∨ a + 7 < x → ρ.1 x = σ.1 x ∧ ρ.2 x = σ.2 x) ∧ (ρ.1 a 1 = σ.1 a 1) ∧ (ρ.1 a 7 = σ.1 a 7)
theorem FrO.o {σ : pST} {ρ : pST} {a : Nat} (h : FrO σ ρ a) : ∀ x, x < a ∨ a + 7 < x → ρ.1 x = σ.1 x ∧ ρ.2 x = σ.2 x := h.1
theorem FrO.b {σ : pST} {ρ : pST} {a : Nat} (h : FrO σ ρ a) : ρ.1 a 1 = σ.1 a 1 := h.2.1
theorem FrO.g {σ : pST} {ρ : pST} {a : Nat} (h : FrO σ ρ a) : ρ.1 a 7 = σ.1 a 7 := h.2.2
abbrev FrP (σ : pST) (ρ : pST) (a : Nat) : Prop := (FrO σ ρ a) ∧ (ρ.1 a 2 = σ.1 a 2 ∧ ρ.1 a 3 = σ.1 a 3)
theorem FrP.o {σ : pST} {ρ : pST} {a : Nat} (h : FrP σ ρ a) : FrO σ ρ a := h.1
theorem FrP.d {σ : pST} {ρ : pST} {a : Nat} (h : FrP σ ρ a) : ρ.1 a 2 = σ.1 a 2 ∧ ρ.1 a 3 = σ.1 a 3 := h.2
theorem rx_wrP {σ : pST} {a c k : Nat} {A : AtS} (h : RXat σ a c A) (hf : A.fl = false) (hk : k < 32) : σ.1 a 12 &&& (nI 1 <<< (nI k &&& 31)) = 0 ↔ ¬ A.wb k = true := by
  rw [bit_iff hk, h.wb k hk, hf]
  simp
theorem rx_kpP {σ : pST} {a c k : Nat} {A : AtS} (h : RXat σ a c A) (hk : k < 32) : σ.1 a 11 &&& (nI 1 <<< (nI k &&& 31)) = 0 ↔ ¬ keptA A k := by
  rw [bit_iff hk, ← h.km k hk]
  simp
theorem rx_wb {σ : pST} {t k : Nat} {T : TbS} {m : Nat} (h : RXtb σ t T m) (hk : k < 32) : ∀ c, c ≤ m → wbO (σ.1 (t + 2)) k c = wbT T k c
  | 0, _ => rfl
  | c + 1, hc => by
    unfold wbO wbT
    obtain ⟨h1, h2⟩ := h.st k c hk (by omega)
    rw [h1, rx_wb h hk c (by omega)]
    by_cases e : T.st c k = 0
    · rw [if_pos (by rw [e]; rfl), if_pos e]
    · rw [if_neg (nI_ne0 (by omega) (by omega)), if_neg e]
theorem rx_fin {ρ : pST} {a c : Nat} {A : AtS} (h : RXat ρ a c A) : RXat (finX ρ a) a c (finA A) := by
  unfold finX finA
  refine ⟨?_, ?_, ?_, ?_, ?_, h.rg, ?_, h.wv, h.ev, ?_, ?_⟩
  all_goals simp only [pm_ui_a, mkAtS_p, mkAtS_fl, mkAtS_rg, mkAtS_wb, mkAtS_wv, mkAtS_kn, mkAtS_kl, mkAtS_kw, mkAtS_kr, mkAtS_kv, mkAtS_en, mkAtS_ev, keptA]
  · simpa using h.s0
  · simp [h.p, nI_1]
  · simpa using h.fl
  · simpa using h.kn
  · simpa using h.en
  · simpa using h.wb
  · simpa using h.kl
  · simpa using h.km
theorem rx_rg {σ : pST} {a c r : Nat} {A : AtS} {v : Int64} (h : RXat σ a c A) : RXat (σ.1, pm_uj σ.2 (a + 3) r v) a c (mkAtS A.p A.fl (fup A.rg r v) A.wb A.wv A.kn A.kl A.kw A.kr A.kv A.en A.ev) := by
  refine ⟨h.s0, h.p, h.fl, h.kn, h.en, ?_, h.wb, ?_, ?_, ?_, h.km⟩
  · intro r' hr'
    show pm_uj σ.2 (a + 3) r v (a + 3) r' = fup A.rg r v r'
    rw [pm_uj_a]
    unfold fup
    by_cases e : r' = r
    · rw [if_pos ⟨rfl, e⟩, if_pos e]
    · rw [if_neg (fun z => e z.2), if_neg e]
      exact h.rg r' hr'
  · intro k hk hw
    show pm_uj σ.2 (a + 3) r v (a + 1) k = A.wv k
    rw [pm_uj_a, if_neg (by omega)]
    exact h.wv k hk hw
  · intro i hi
    show pm_uj σ.2 (a + 3) r v (a + 2) i = A.ev i
    rw [pm_uj_a, if_neg (by omega)]
    exact h.ev i hi
  · intro i hi
    obtain ⟨h1, h2, h3, h4⟩ := h.kl i hi
    refine ⟨h1, h2, h3, ?_⟩
    show pm_uj σ.2 (a + 3) r v (a + 4) (A.kl i) = A.kv (A.kl i)
    rw [pm_uj_a, if_neg (by omega)]
    exact h4
theorem fr_rg {σ : pST} {a r : Nat} {v : Int64} : FrP σ (σ.1, pm_uj σ.2 (a + 3) r v) a := ⟨⟨fun x hx => ⟨rfl, pm_uj_n (by omega)⟩, rfl, rfl⟩, rfl, rfl⟩
theorem rx_perform {σ : pST} {a c kd r s : Nat} {A : AtS} {v : Int64} (ha : isA a) (h : RXat σ a c A) (hk : AtOK c A) (hf : A.fl = false) (hp : A.p < 12) (hkd : kd ≤ 8) (hk1 : kd ≠ 1) (hr : r < 4) (hs : s < 4) (h6 : kd = 6 → ∃ q, q ≤ 12 ∧ v.toInt32 = nI q) : ∃ ρ, kX0_perform σ [.inr (.inr a), .inl (nI kd), .inl (nI r), .inl (nI s), .inr (.inl v)] = some (ρ, none) ∧ RXat ρ a c (perfA kd r s v A) ∧ FrP σ ρ a := by
  have hcase : kd = 0 ∨ kd = 2 ∨ kd = 3 ∨ kd = 4 ∨ kd = 5 ∨ kd = 6 ∨ kd = 7 ∨ kd = 8 := by omega
  rcases hcase with rfl | rfl | rfl | rfl | rfl | rfl | rfl | rfl
  · exact ⟨_, ev_X0_perform_0 σ ha hr hs v, rx_rg h, fr_rg⟩
  · refine ⟨_, ev_X0_perform_2 σ ha hr hs v (lfA_l (v + σ.2 (a + 3) s)) (leaf31 _), ?_, ⟨fun x hx => ⟨pm_ui_n (by omega), pm_uj_n (by omega)⟩, ?_, ?_⟩, ?_, ?_⟩
    · rw [h.rg s hs]
      have hl := lfA_l (v + A.rg s)
      show RXat _ a c (mkAtS A.p A.fl A.rg (fup A.wb (lfA (v + A.rg s)) true) (fup A.wv (lfA (v + A.rg s)) (A.rg r)) A.kn A.kl A.kw A.kr A.kv A.en A.ev)
      refine ⟨?_, ?_, ?_, ?_, ?_, ?_, ?_, ?_, ?_, ?_, ?_⟩
      all_goals simp only [pm_ui_a, pm_uj_a, mkAtS_p, mkAtS_fl, mkAtS_rg, mkAtS_wb, mkAtS_wv, mkAtS_kn, mkAtS_kl, mkAtS_kw, mkAtS_kr, mkAtS_kv, mkAtS_en, mkAtS_ev, keptA]
      · simpa using h.s0
      · simpa using h.p
      · simpa using h.fl
      · simpa using h.kn
      · simpa using h.en
      · simpa using h.rg
      · intro k hk
        rw [if_pos ⟨trivial, trivial⟩, bit_or hl hk, h.wb k hk, hf]
        unfold fup
        by_cases e : k = lfA (v + A.rg s)
        · simp [e]
        · simp [e]
      · intro k hk
        unfold fup
        by_cases e : k = lfA (v + A.rg s)
        · simp [e, h.rg r hr]
        · simp only [e, and_false, if_false]
          exact h.wv k hk
      · simpa using h.ev
      · simpa using h.kl
      · simpa using h.km
    · simp [pm_ui_a]
    · simp [pm_ui_a]
    · simp [pm_ui_a]
    · simp [pm_ui_a]
  · refine ⟨_, ev_X0_perform_3 σ ha hr hs v, ?_, fr_rg⟩
    rw [h.rg r hr, h.rg s hs]
    exact rx_rg h
  · refine ⟨_, ev_X0_perform_4 σ ha hr hs v, ?_, fr_rg⟩
    rw [h.rg r hr, h.rg s hs]
    exact rx_rg h
  · refine ⟨_, ev_X0_perform_5 σ ha hr hs v, ?_, fr_rg⟩
    rw [h.rg r hr, h.rg s hs]
    exact rx_rg h
  · refine ⟨_, ev_X0_perform_6 σ ha hr hs v, ?_, ?_⟩
    · rw [h.rg r hr, h.rg s hs]
      show RXat _ a c (if lg_cmp (A.rg r) (A.rg s) < 0 then (mkAtS (A.p + v.toInt32.toNatClampNeg) A.fl A.rg A.wb A.wv A.kn A.kl A.kw A.kr A.kv A.en A.ev) else A)
      split
      · obtain ⟨q, hq, e⟩ := h6 rfl
        refine ⟨?_, ?_, ?_, ?_, ?_, h.rg, ?_, h.wv, h.ev, ?_, ?_⟩
        all_goals simp only [pm_ui_a, mkAtS_p, mkAtS_fl, mkAtS_rg, mkAtS_wb, mkAtS_wv, mkAtS_kn, mkAtS_kl, mkAtS_kw, mkAtS_kr, mkAtS_kv, mkAtS_en, mkAtS_ev, keptA]
        · simpa using h.s0
        · rw [e, nI_clamp (by omega), h.p, nI_add]
          simp
        · simpa using h.fl
        · simpa using h.kn
        · simpa using h.en
        · simpa using h.wb
        · simpa using h.kl
        · simpa using h.km
      · exact h
    · split
      · exact ⟨⟨fun x hx => ⟨pm_ui_n (by omega), rfl⟩, by simp [pm_ui_a], by simp [pm_ui_a]⟩, by simp [pm_ui_a], by simp [pm_ui_a]⟩
      · exact ⟨⟨fun x hx => ⟨rfl, rfl⟩, rfl, rfl⟩, rfl, rfl⟩
  · have he : σ.1 a 6 = nI A.en := by rw [h.en, hf]; rfl
    have hen := hk.en
    refine ⟨_, ev_X0_perform_7 σ ha hr hs v he (by omega), ?_, ⟨fun x hx => ⟨pm_ui_n (by omega), pm_uj_n (by omega)⟩, ?_, ?_⟩, ?_, ?_⟩
    · show RXat _ a c (mkAtS A.p A.fl A.rg A.wb A.wv A.kn A.kl A.kw A.kr A.kv (A.en + 1) (fup A.ev A.en (A.rg r)))
      refine ⟨?_, ?_, ?_, ?_, ?_, ?_, ?_, ?_, ?_, ?_, ?_⟩
      all_goals simp only [pm_ui_a, pm_uj_a, mkAtS_p, mkAtS_fl, mkAtS_rg, mkAtS_wb, mkAtS_wv, mkAtS_kn, mkAtS_kl, mkAtS_kw, mkAtS_kr, mkAtS_kv, mkAtS_en, mkAtS_ev, keptA]
      · simpa using h.s0
      · simpa using h.p
      · simpa using h.fl
      · simpa using h.kn
      · simp [hf]
      · simpa using h.rg
      · simpa using h.wb
      · simpa using h.wv
      · intro i hi
        unfold fup
        by_cases e : i = A.en
        · simp [e, h.rg r hr]
        · simp only [e, and_false, if_false]
          exact h.ev i (by omega)
      · simpa using h.kl
      · simpa using h.km
    · simp [pm_ui_a]
    · simp [pm_ui_a]
    · simp [pm_ui_a]
    · simp [pm_ui_a]
  · refine ⟨_, ev_X0_perform_8 σ ha hr hs v, ?_, ?_⟩
    · rw [h.rg r hr]
      show RXat _ a c (if lg_cmp (A.rg r) 0 < 0 then (mkAtS A.p (true) A.rg A.wb A.wv A.kn A.kl A.kw A.kr A.kv A.en A.ev) else A)
      split
      · refine ⟨?_, ?_, ?_, ?_, ?_, h.rg, ?_, h.wv, h.ev, ?_, ?_⟩
        all_goals simp only [pm_ui_a, mkAtS_p, mkAtS_fl, mkAtS_rg, mkAtS_wb, mkAtS_wv, mkAtS_kn, mkAtS_kl, mkAtS_kw, mkAtS_kr, mkAtS_kv, mkAtS_en, mkAtS_ev, keptA]
        · simpa using h.s0
        · simpa using h.p
        · simp
        · simpa using h.kn
        · simp; rfl
        · simp
        · simpa using h.kl
        · simpa using h.km
      · exact h
    · split
      · refine ⟨⟨fun x hx => ⟨?_, rfl⟩, by simp [pm_ui_a], by simp [pm_ui_a]⟩, by simp [pm_ui_a], by simp [pm_ui_a]⟩
        show pm_ui _ a 6 0 x = _
        rw [pm_ui_n (by omega), pm_ui_n (by omega), pm_ui_n (by omega)]
      · exact ⟨⟨fun x hx => ⟨rfl, rfl⟩, rfl, rfl⟩, rfl, rfl⟩
theorem rx_kp {σ : pST} {a c k : Nat} {A : AtS} {o : Option Nat} {num r : Nat} {nn : Int32} {v : Int64} (h : RXat σ a c A) (hk : k < 32) (hn : ¬ keptA A k) (hnn : nn = kI o num) : RXat (pm_ui (pm_ui (pm_ui (pm_ui (pm_ui σ.1 (a + 5) A.kn (nI k)) (a + 6) A.kn (oI o)) (a + 7) A.kn nn) a 11 (σ.1 a 11 ||| (nI 1 <<< (nI k &&& 31)))) a 5 (nI (A.kn + 1)), pm_uj (pm_uj σ.2 (a + 4) k v) (a + 3) r v) a c (mkAtS A.p A.fl (fup A.rg r v) A.wb A.wv (A.kn + 1) (fup A.kl A.kn k) (fup A.kw A.kn o) (fup A.kr A.kn num) (fup A.kv k v) A.en A.ev) := by
  refine ⟨?_, ?_, ?_, ?_, ?_, ?_, ?_, ?_, ?_, ?_, ?_⟩
  all_goals simp only [pm_ui_a, pm_uj_a, mkAtS_p, mkAtS_fl, mkAtS_rg, mkAtS_wb, mkAtS_wv, mkAtS_kn, mkAtS_kl, mkAtS_kw, mkAtS_kr, mkAtS_kv, mkAtS_en, mkAtS_ev, keptA]
  · simpa using h.s0
  · simpa using h.p
  · simpa using h.fl
  · simp
  · simpa using h.en
  · intro r' hr'
    unfold fup
    by_cases e : r' = r
    · simp [e]
    · simp [e, h.rg r' hr']
  · simpa using h.wb
  · simpa using h.wv
  · simpa using h.ev
  · intro i hi
    by_cases e : i = A.kn
    · subst e
      simp [fup_s, hnn]
    · have hi2 : i < A.kn := by omega
      obtain ⟨h1, h2, h3, h4⟩ := h.kl i hi2
      have hne : A.kl i ≠ k := fun z => hn ⟨i, hi2, z⟩
      simp [fup_n e, fup_n hne, e, hne, h1, h2, h3, h4]
  · intro j hj
    have h9 := h.km j hj
    have h8 := bit_or (m := σ.1 a 11) hk hj
    simp only [true_and]
    rw [if_neg (by decide), if_pos trivial, h8, Bool.or_eq_true, h9]
    constructor
    · rintro (⟨i, hi, h7⟩ | h7)
      · exact ⟨i, by omega, by rw [fup_n (by omega)]; exact h7⟩
      · exact ⟨A.kn, by omega, by rw [fup_s]; exact (of_decide_eq_true h7).symm⟩
    · rintro ⟨i, hi, h7⟩
      by_cases ei : i = A.kn
      · subst ei; rw [fup_s] at h7; exact .inr (decide_eq_true h7.symm)
      · rw [fup_n ei] at h7; exact .inl ⟨i, by omega, h7⟩
theorem fr_kp {σ : pST} {a kp r k : Nat} {x1 x2 x3 x4 x5 : Int32} {v w : Int64} : FrP σ (pm_ui (pm_ui (pm_ui (pm_ui (pm_ui σ.1 (a + 5) kp x1) (a + 6) kp x2) (a + 7) kp x3) a 11 x4) a 5 x5, pm_uj (pm_uj σ.2 (a + 4) k v) (a + 3) r w) a := by
  refine ⟨⟨fun x hx => ⟨?_, ?_⟩, by simp [pm_ui_a], by simp [pm_ui_a]⟩, by simp [pm_ui_a], by simp [pm_ui_a]⟩
  · show pm_ui _ a 5 x5 x = σ.1 x
    rw [pm_ui_n (by omega), pm_ui_n (by omega), pm_ui_n (by omega), pm_ui_n (by omega), pm_ui_n (by omega)]
  · show pm_uj _ (a + 3) r w x = σ.2 x
    rw [pm_uj_n (by omega), pm_uj_n (by omega)]
theorem rx_read {σ : pST} {a t c r k : Nat} {A : AtS} {T : TbS} (ha : isA a) (ht : isT t) (h : RXat σ a c A) (hT : RXtb σ t T c) (hk : AtOK c A) (hf : A.fl = false) (hp : A.p < 12) (hc : c < 16) (hr : r < 4) (hl : k < 32) : ∃ ρ, kX0_read σ [.inr (.inr a), .inl (nI r), .inl (nI k), .inr (.inr t)] = some (ρ, some (.inl (oI (readA T c r k A).1))) ∧ RXat ρ a c (readA T c r k A).2 ∧ FrP σ ρ a := by
  unfold readA
  by_cases h1 : A.wb k = true
  · rw [if_pos h1]
    refine ⟨_, ev_X0_read_w σ ha ht hr hl (fun z => (rx_wrP h hf hl).mp z h1), ?_, fr_rg⟩
    rw [h.wv k hl h1]
    exact rx_rg h
  · rw [if_neg h1]
    have hb := (rx_wrP h hf hl).mpr h1
    by_cases h2 : keptA A k
    · rw [if_pos h2]
      refine ⟨_, ev_X0_read_k σ ha ht hr hl hb (fun z => (rx_kpP h hl).mp z h2), ?_, fr_rg⟩
      obtain ⟨i, hi, e⟩ := h2
      have h4 := (h.kl i hi).2.2.2
      rw [e] at h4
      rw [h4]
      exact rx_rg h
    · rw [if_neg h2]
      have hm := (rx_kpP h hl).mpr h2
      have hkn := hk.kn
      have ew := rx_wb hT hl c (Nat.le_refl c)
      have en := wbN_o (st := σ.1 (t + 2)) (k := k) c
      rw [ew] at en
      cases hw : wbT T k c with
      | none =>
        rw [hw] at en
        rw [if_neg (show ¬ isPh T k none = true from Bool.false_ne_true)]
        have e9 := ev_X0_read_n σ ha ht hr hl hb hm h.s0 (by omega) en h.kn (by omega)
        refine ⟨_, e9, ?_, fr_kp⟩
        rw [hT.bf k hl]
        exact rx_kp (o := none) h hl h2 rfl
      | some j =>
        rw [hw] at en
        obtain ⟨hj, hs⟩ := wbT_l hw
        obtain ⟨q1, q2⟩ := hT.st k j hl hj
        by_cases h3 : T.st j k = 2
        · rw [if_pos (by simp [isPh, h3])]
          exact ⟨σ, ev_X0_read_p σ ha ht hr hl hb hm h.s0 (by omega) en (by omega) (by rw [q1, h3]), h, ⟨⟨fun x hx => ⟨rfl, rfl⟩, rfl, rfl⟩, rfl, rfl⟩⟩
        · rw [if_neg (by simp [isPh, h3])]
          have hne : ¬ σ.1 (t + 2) (k * 16 + j) = nI 2 := fun z => h3 ((nI_eq (by omega) (by omega)).mp (q1.symm.trans z))
          have e9 := ev_X0_read_s σ ha ht hr hl hb hm h.s0 (by omega) en (by omega) hne h.kn (by omega)
          obtain ⟨q3, q4⟩ := hT.nv k j hl hj hs
          refine ⟨_, e9, ?_, fr_kp⟩
          rw [q4]
          exact rx_kp (o := some j) h hl h2 q3
theorem rx_doNext {σ : pST} {a t c : Nat} {A : AtS} {B : BkS} {T : TbS} (ha : isA a) (ht : isT t) (h8 : 7 < a) (hB : BkOK B) (hb : RXbk σ B) (hT : RXtb σ t T c) (h : RXat σ a c A) (hk : AtOK c A) (hc : c < B.n) (ho : ¬ overA B c A) : ∃ ρ, kX0_doNext σ [.inr (.inr a), .inr (.inr 2), .inr (.inr t)] = some (ρ, some (.inl (oI (doA B T c A).1))) ∧ RXat ρ a c (doA B T c A).2 ∧ FrO σ ρ a ∧ ρ.1 a 2 = (if (doA B T c A).1 = none then σ.1 a 2 + 1 else σ.1 a 2) ∧ ρ.1 a 3 = (if (doA B T c A).1 = none then σ.1 a 3 + 1 else σ.1 a 3) := by
  have hn := hB.n
  have hc16 : c < 16 := by omega
  have hacl := hB.ac c hc16
  have hf : A.fl = false := by
    cases e : A.fl with
    | false => rfl
    | true => exact absurd (.inl e) ho
  have hp : A.p < B.ac c := by
    have : ¬ B.ac c ≤ A.p := fun z => ho (.inr z)
    omega
  have hi := ix192 hc16 (show A.p < 12 by omega)
  obtain ⟨b1, b2, b3, b4⟩ := hB.kd _ hi
  obtain ⟨c1, c2, c3, c4⟩ := hb.kd _ hi
  have hgo : σ.1 a 4 = 0 ∧ c < B.n ∧ A.p < B.ac c := ⟨by rw [h.fl, hf]; rfl, hc, hp⟩
  have frfin : ∀ ρ : pST, FrP σ ρ a → FrO σ (finX ρ a) a ∧ (finX ρ a).1 a 2 = σ.1 a 2 + 1 ∧ (finX ρ a).1 a 3 = σ.1 a 3 + 1 := by
    intro ρ q
    refine ⟨⟨fun x hx => ⟨?_, (q.o.o x hx).2⟩, ?_, ?_⟩, ?_, ?_⟩
    · show pm_ui _ a 2 _ x = _
      rw [pm_ui_n (by omega), pm_ui_n (by omega), pm_ui_n (by omega)]
      exact (q.o.o x hx).1
    · simpa [finX, pm_ui_a] using q.o.b
    · simpa [finX, pm_ui_a] using q.o.g
    · simp [finX, pm_ui_a, q.d.1]
    · simp [finX, pm_ui_a, q.d.2]
  unfold doA
  by_cases h1 : B.kd (c * 12 + A.p) = 1
  · rw [if_pos h1]
    obtain ⟨ρ, e1, e2, e3⟩ := rx_read (r := B.lf (c * 12 + A.p)) ha ht h hT hk hf (by omega) hc16 b2 (lfA_l (B.vl (c * 12 + A.p) + A.rg (B.rt (c * 12 + A.p))))
    have ev : ((σ.2 7 (c * 12 + A.p) + σ.2 (a + 3) (B.rt (c * 12 + A.p))) &&& 31).toInt32 = nI (lfA (B.vl (c * 12 + A.p) + A.rg (B.rt (c * 12 + A.p)))) := by rw [c4, h.rg _ b3, leaf31]
    cases hr : readA T c (B.lf (c * 12 + A.p)) (lfA (B.vl (c * 12 + A.p) + A.rg (B.rt (c * 12 + A.p)))) A with
    | mk o A' =>
      rw [hr] at e1 e2
      cases o with
      | none =>
        refine ⟨finX ρ a, ev_X0_doNext_r σ ha hn hb.n hc16 (hb.ac c hc16) hacl (by omega) h.s0 h.p hgo b1 c1 c2 c3 h1 b3 (lfA_l _) ev e1 rfl, rx_fin e2, ?_⟩
        simpa using frfin ρ e3
      | some j =>
        have hj := (wbT_l (readA_some hr).2.1).1
        refine ⟨ρ, ev_X0_doNext_w σ ha hn hb.n hc16 (hb.ac c hc16) hacl (by omega) h.s0 h.p hgo b1 c1 c2 c3 h1 b3 (lfA_l _) ev e1 (nI_m1 (by omega)), e2, e3.o, ?_⟩
        simpa using e3.d
  · rw [if_neg h1]
    obtain ⟨ρ, e1, e2, e3⟩ := rx_perform (v := B.vl (c * 12 + A.p)) ha h hk hf (by omega) b1 h1 b2 b3 b4
    rw [← c4] at e1
    refine ⟨finX ρ a, ev_X0_doNext_a σ ha hn hb.n hc16 (hb.ac c hc16) hacl (by omega) h.s0 h.p hgo b1 c1 c2 c3 h1 e1, rx_fin e2, ?_⟩
    simpa using frfin ρ e3
theorem rx_isOver {σ : pST} {a c : Nat} {A : AtS} {B : BkS} (ha : isA a) (hB : BkOK B) (hb : RXbk σ B) (h : RXat σ a c A) (hk : AtOK c A) (hc : c < B.n) : kX0_isOver σ [.inr (.inr a), .inr (.inr 2)] = some (σ, some (.inl (if overA B c A then 1 else 0))) := by
  have hn := hB.n
  have hp := hk.p
  rw [ev_X0_isOver σ ha hn hb.n (show c < 16 by omega) (hb.ac c (by omega)) (hB.ac c (by omega)) (by omega) h.s0 h.p, h.fl]
  by_cases ho : overA B c A
  · rw [if_pos ho, if_neg]
    rintro ⟨z1, z2, z3⟩
    rcases ho with ho | ho
    · rw [ho] at z1; exact absurd z1 (by decide)
    · omega
  · rw [if_neg ho, if_pos]
    have hf : A.fl = false := by
      cases e : A.fl with
      | false => rfl
      | true => exact absurd (.inl e) ho
    refine ⟨by rw [hf]; rfl, hc, ?_⟩
    have : ¬ B.ac c ≤ A.p := fun z => ho (.inr z)
    omega
theorem rx_doNext_o {σ : pST} {a t c : Nat} {A : AtS} {B : BkS} (ha : isA a) (hB : BkOK B) (hb : RXbk σ B) (h : RXat σ a c A) (hk : AtOK c A) (hc : c < B.n) (ho : overA B c A) : kX0_doNext σ [.inr (.inr a), .inr (.inr 2), .inr (.inr t)] = some (σ, some (.inl (-1))) := by
  have hn := hB.n
  have hp := hk.p
  refine ev_X0_doNext_o σ ha hn hb.n (show c < 16 by omega) (hb.ac c (by omega)) (hB.ac c (by omega)) (by omega) h.s0 h.p ?_
  rintro ⟨z1, z2, z3⟩
  rw [h.fl] at z1
  rcases ho with ho | ho
  · rw [ho] at z1; exact absurd z1 (by decide)
  · omega
theorem rx_begin {σ : pST} {a c : Nat} (ha : isA a) (h0 : σ.1 a 0 = nI c) : ∃ ρ, kX0_begin σ [.inr (.inr a)] = some (ρ, none) ∧ RXat ρ a c at0 ∧ (∀ x, x < a ∨ a + 7 < x → ρ.1 x = σ.1 x ∧ ρ.2 x = σ.2 x) ∧ ρ.1 a 1 = σ.1 a 1 + 1 ∧ ρ.1 a 7 = σ.1 a 7 ∧ ρ.1 a 2 = σ.1 a 2 ∧ ρ.1 a 3 = 0 := by
  refine ⟨_, ev_X0_begin σ ha, ⟨?_, ?_, ?_, ?_, ?_, ?_, ?_, ?_, ?_, ?_, ?_⟩, fun x hx => ⟨?_, ?_⟩, ?_, ?_, ?_, ?_⟩
  all_goals try (simp [begX, pm_ui_a, at0, mkAtS_p, mkAtS_fl, mkAtS_rg, mkAtS_wb, mkAtS_wv, mkAtS_kn, mkAtS_kl, mkAtS_kw, mkAtS_kr, mkAtS_kv, mkAtS_en, mkAtS_ev, keptA, nI_0]; done)
  · simpa [begX, pm_ui_a] using h0
  · intro r hr
    show filJ σ.2 (a + 3) 4 0 (a + 3) r = 0
    exact if_pos ⟨rfl, hr⟩
  · show pm_ui _ a 6 _ x = _
    rw [pm_ui_n (by omega), pm_ui_n (by omega), pm_ui_n (by omega), pm_ui_n (by omega), pm_ui_n (by omega), pm_ui_n (by omega), pm_ui_n (by omega), pm_ui_n (by omega)]
  · funext y
    show filJ σ.2 (a + 3) 4 0 x y = _
    exact if_neg (by omega)
