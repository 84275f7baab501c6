/-! ===== the class in order: what is kept ===== -/
theorem FrO.trans {σ ρ τ : pST} {a : Nat} (h1 : FrO σ ρ a) (h2 : FrO ρ τ a) : FrO σ τ a := ⟨fun x hx => ⟨(h2.o x hx).1.trans (h1.o x hx).1, (h2.o x hx).2.trans (h1.o x hx).2⟩, h2.b.trans h1.b, h2.g.trans h1.g⟩
theorem FrO.refl {σ : pST} {a : Nat} : FrO σ σ a := ⟨fun _ _ => ⟨rfl, rfl⟩, rfl, rfl⟩
theorem rx_pubm {σ : pST} {T : TbS} {A : AtS} {a t c num : Nat} (hc : c < 16) (ha : RXat σ a c A) (h : RXtb σ t T c) : RXtb (pubS σ a t c (nI num) 32) t (pubT T c A num) (c + 1) := by
  refine ⟨fun k j hk hj => ?_, fun k j hk hj hs => ?_, fun k hk => ?_⟩
  · have e1 : (k * 16 + j) % 16 = j := by omega
    have e2 : (k * 16 + j) / 16 = k := by omega
    show (if t + 2 = t + 2 ∧ (k * 16 + j) % 16 = c ∧ (k * 16 + j) / 16 < 32 then (if wrP σ a ((k * 16 + j) / 16) then nI 1 else 0) else if t + 2 = t + 3 ∧ (k * 16 + j) % 16 = c ∧ (k * 16 + j) / 16 < 32 ∧ wrP σ a ((k * 16 + j) / 16) then nI num else σ.1 (t + 2) (k * 16 + j)) = nI (if j = c then (cond (wrA A k) 1 0) else T.st j k) ∧ (if j = c then (cond (wrA A k) 1 0) else T.st j k) ≤ 2
    rw [e1, e2]
    by_cases e : j = c
    · rw [if_pos ⟨rfl, e, hk⟩, if_pos e]
      by_cases w : wrA A k = true
      · rw [if_pos ((wrP_iff ha hk).mpr w), w]; exact ⟨rfl, by decide⟩
      · rw [if_neg (fun z => w ((wrP_iff ha hk).mp z)), Bool.eq_false_iff.mpr w]; exact ⟨rfl, by decide⟩
    · rw [if_neg (fun z => e z.2.1), if_neg (by omega), if_neg e]
      exact h.st k j hk (by omega)
  · have e1 : (k * 16 + j) % 16 = j := by omega
    have e2 : (k * 16 + j) / 16 = k := by omega
    have hs' : (if j = c then (cond (wrA A k) 1 0) else T.st j k) ≠ 0 := hs
    show (if t + 3 = t + 2 ∧ _ then _ else if t + 3 = t + 3 ∧ (k * 16 + j) % 16 = c ∧ (k * 16 + j) / 16 < 32 ∧ wrP σ a ((k * 16 + j) / 16) then nI num else σ.1 (t + 3) (k * 16 + j)) = nI (if j = c ∧ wrA A k = true then num else T.nm j k) ∧ (if t + 4 = t + 4 ∧ (k * 16 + j) % 16 = c ∧ (k * 16 + j) / 16 < 32 ∧ wrP σ a ((k * 16 + j) / 16) then σ.2 (a + 1) ((k * 16 + j) / 16) else σ.2 (t + 4) (k * 16 + j)) = (if j = c ∧ wrA A k = true then A.wv k else T.vl j k)
    rw [if_neg (by omega), e1, e2]
    by_cases e : j = c
    · rw [if_pos e] at hs'
      have w : wrA A k = true := by
        cases w : wrA A k with
        | true => rfl
        | false => rw [w] at hs'; exact absurd rfl hs'
      have w3 : t + 3 = t + 3 ∧ j = c ∧ k < 32 ∧ wrP σ a k := ⟨rfl, e, hk, (wrP_iff ha hk).mpr w⟩
      have w4 : t + 4 = t + 4 ∧ j = c ∧ k < 32 ∧ wrP σ a k := ⟨rfl, e, hk, (wrP_iff ha hk).mpr w⟩
      rw [if_pos w3, if_pos w4, if_pos ⟨e, w⟩, if_pos ⟨e, w⟩]
      refine ⟨rfl, ha.wv k hk ?_⟩
      unfold wrA at w
      revert w
      cases A.wb k <;> simp
    · rw [if_neg e] at hs'
      have w3 : ¬ (t + 3 = t + 3 ∧ j = c ∧ k < 32 ∧ wrP σ a k) := fun z => e z.2.1
      have w4 : ¬ (t + 4 = t + 4 ∧ j = c ∧ k < 32 ∧ wrP σ a k) := fun z => e z.2.1
      have w5 : ¬ (j = c ∧ wrA A k = true) := fun z => e z.1
      rw [if_neg w3, if_neg w4, if_neg w5, if_neg w5]
      exact h.nv k j hk (by omega) hs'
  · rw [pub_oj (by omega)]
    exact h.bf k hk
abbrev RXg (σ : pST) (b : Nat) (S : RnS) (c : Nat) : Prop := (σ.1 (b + 7 + 8 * c) 0 = nI c) ∧ (σ.1 (b + 7 + 8 * c) 1 = nI (S.bg c)) ∧ (σ.1 (b + 7 + 8 * c) 2 = nI (S.da c)) ∧ (1 ≤ S.bg c → RXat σ (b + 7 + 8 * c) c (S.am c) ∧ σ.1 (b + 7 + 8 * c) 3 = nI (S.dd c))
theorem RXg.s0 {σ : pST} {b : Nat} {S : RnS} {c : Nat} (h : RXg σ b S c) : σ.1 (b + 7 + 8 * c) 0 = nI c := h.1
theorem RXg.bg {σ : pST} {b : Nat} {S : RnS} {c : Nat} (h : RXg σ b S c) : σ.1 (b + 7 + 8 * c) 1 = nI (S.bg c) := h.2.1
theorem RXg.da {σ : pST} {b : Nat} {S : RnS} {c : Nat} (h : RXg σ b S c) : σ.1 (b + 7 + 8 * c) 2 = nI (S.da c) := h.2.2.1
theorem RXg.am {σ : pST} {b : Nat} {S : RnS} {c : Nat} (h : RXg σ b S c) : 1 ≤ S.bg c → RXat σ (b + 7 + 8 * c) c (S.am c) ∧ σ.1 (b + 7 + 8 * c) 3 = nI (S.dd c) := h.2.2.2
theorem g_c {σ ρ : pST} {S S' : RnS} {b c : Nat} (h : RXg σ b S c) (hx : ∀ x, b + 7 + 8 * c ≤ x → x ≤ b + 7 + 8 * c + 7 → ρ.1 x = σ.1 x ∧ ρ.2 x = σ.2 x) (h1 : S'.bg c = S.bg c) (h2 : S'.da c = S.da c) (h3 : S'.am c = S.am c) (h4 : S'.dd c = S.dd c) : RXg ρ b S' c := by
  obtain ⟨k1, k2, k3, k4⟩ := h
  have e := (hx (b + 7 + 8 * c) (by omega) (by omega)).1
  exact ⟨by rw [e]; exact k1, by rw [e, h1]; exact k2, by rw [e, h2]; exact k3, fun z => by rw [h3, h4]; exact ⟨at_c (k4 (by rw [← h1]; exact z)).1 hx, by rw [e]; exact (k4 (by rw [← h1]; exact z)).2⟩⟩
abbrev OX (σ0 : pST) (σ : pST) (b : Nat) (B : BkS) (S : RnS) (c : Nat) : Prop := (RXbk σ B) ∧ (σ.1 b = σ0.1 b) ∧ (RXtb σ (b + 1) (ordT B S.T.bf c) c) ∧ (∀ k j, k < 32 → c ≤ j → j < 16 → σ.1 (b + 3) (k * 16 + j) = σ0.1 (b + 3) (k * 16 + j)) ∧ (∀ d, d < 16 → RXg σ b (ordS B S c) d) ∧ (∀ x, x < b ∨ b + 134 < x → σ.1 x = σ0.1 x ∧ σ.2 x = σ0.2 x)
theorem OX.bk {σ0 : pST} {σ : pST} {b : Nat} {B : BkS} {S : RnS} {c : Nat} (h : OX σ0 σ b B S c) : RXbk σ B := h.1
theorem OX.b2 {σ0 : pST} {σ : pST} {b : Nat} {B : BkS} {S : RnS} {c : Nat} (h : OX σ0 σ b B S c) : σ.1 b = σ0.1 b := h.2.1
theorem OX.tb {σ0 : pST} {σ : pST} {b : Nat} {B : BkS} {S : RnS} {c : Nat} (h : OX σ0 σ b B S c) : RXtb σ (b + 1) (ordT B S.T.bf c) c := h.2.2.1
theorem OX.zz {σ0 : pST} {σ : pST} {b : Nat} {B : BkS} {S : RnS} {c : Nat} (h : OX σ0 σ b B S c) : ∀ k j, k < 32 → c ≤ j → j < 16 → σ.1 (b + 3) (k * 16 + j) = σ0.1 (b + 3) (k * 16 + j) := h.2.2.2.1
theorem OX.a {σ0 : pST} {σ : pST} {b : Nat} {B : BkS} {S : RnS} {c : Nat} (h : OX σ0 σ b B S c) : ∀ d, d < 16 → RXg σ b (ordS B S c) d := h.2.2.2.2.1
theorem OX.fr {σ0 : pST} {σ : pST} {b : Nat} {B : BkS} {S : RnS} {c : Nat} (h : OX σ0 σ b B S c) : ∀ x, x < b ∨ b + 134 < x → σ.1 x = σ0.1 x ∧ σ.2 x = σ0.2 x := h.2.2.2.2.2
/-- one call of the row: begun, run, published -/
theorem ox_call {σ0 σ σ1 σ2 : pST} {b c : Nat} {B : BkS} {S : RnS} (hb : 8 < b) (hc : c < 16) (h : OX σ0 σ b B S c)
    (hf1 : ∀ x, x < b + 7 + 8 * c ∨ b + 7 + 8 * c + 7 < x → σ1.1 x = σ.1 x ∧ σ1.2 x = σ.2 x) (h11 : σ1.1 (b + 7 + 8 * c) 1 = σ.1 (b + 7 + 8 * c) 1 + 1) (h12 : σ1.1 (b + 7 + 8 * c) 2 = σ.1 (b + 7 + 8 * c) 2)
    (hf2 : FrO σ1 σ2 (b + 7 + 8 * c)) (hA : RXat σ2 (b + 7 + 8 * c) c (ordA B S.T.bf c)) (h22 : σ2.1 (b + 7 + 8 * c) 2 = nI (S.da c + ordK B S.T.bf c)) (h23 : σ2.1 (b + 7 + 8 * c) 3 = nI (ordK B S.T.bf c)) : OX σ0 (pubS σ2 (b + 7 + 8 * c) (b + 1) c (nI 0) 32) b B S (c + 1) := by
  obtain ⟨k1, k2, k3, k4, k5, k6⟩ := h
  have f12 : ∀ x, x < b + 7 + 8 * c ∨ b + 7 + 8 * c + 7 < x → σ2.1 x = σ.1 x ∧ σ2.2 x = σ.2 x := fun x hx => ⟨(hf2.o x hx).1.trans (hf1 x hx).1, (hf2.o x hx).2.trans (hf1 x hx).2⟩
  have fp : ∀ x, x ≠ b + 3 → x ≠ b + 4 → x ≠ b + 5 → (pubS σ2 (b + 7 + 8 * c) (b + 1) c (nI 0) 32).1 x = σ2.1 x ∧ (pubS σ2 (b + 7 + 8 * c) (b + 1) c (nI 0) 32).2 x = σ2.2 x := fun x z1 z2 z3 => ⟨pub_oi z1 z2, pub_oj z3⟩
  have t2 : RXtb σ2 (b + 1) (ordT B S.T.bf c) c := tb_c k3 fun x z1 z2 => f12 x (by clear k1 k3 k5 hA; omega)
  have t3 := rx_pubm (num := 0) hc hA t2
  have kc := k5 c hc
  have zst : ∀ y, ¬ y % 16 = c → (pubS σ2 (b + 7 + 8 * c) (b + 1) c (nI 0) 32).1 (b + 3) y = σ2.1 (b + 3) y := fun y hy => by
    show (if b + 3 = b + 1 + 2 ∧ y % 16 = c ∧ _ then _ else if b + 3 = b + 1 + 3 ∧ y % 16 = c ∧ _ then _ else σ2.1 (b + 3) y) = _
    rw [if_neg (fun z => hy z.2.1), if_neg (fun z => hy z.2.1)]
  have hda : (ordS B S c).da c = S.da c := by
    have : ∀ m, m ≤ c → (ordS B S m).da c = S.da c := fun m => by
      induction m with
      | zero => intro _; rfl
      | succ m ih =>
        intro hm
        show fup (ordS B S m).da m _ c = S.da c
        rw [fup_n (by clear k1 k3 k5 hA t2 t3; omega)]
        exact ih (by clear k1 k3 k5 hA t2 t3; omega)
    exact this c (Nat.le_refl _)
  clear k3 t2
  generalize pubS σ2 (b + 7 + 8 * c) (b + 1) c (nI 0) 32 = τ at fp t3 zst ⊢
  refine ⟨?_, ?_, t3, fun k j hk hj h16 => ?_, fun d hd => ?_, fun x hx => ?_⟩
  · refine bk_c k1 fun x z1 z2 => ?_
    clear k1 k5 hA t3 kc
    obtain ⟨p1, p2⟩ := fp x (by omega) (by omega) (by omega)
    obtain ⟨p3, p4⟩ := f12 x (by omega)
    exact ⟨p1.trans p3, p2.trans p4⟩
  · clear k1 k5 hA t3 kc
    rw [(fp b (by omega) (by omega) (by omega)).1, (f12 b (by omega)).1, k2]
  · clear k1 k5 hA t3 kc
    rw [zst _ (by omega), (f12 (b + 3) (by omega)).1]
    exact k4 k j hk (by omega) h16
  · by_cases e : d = c
    · subst e
      have ea := fp (b + 7 + 8 * d) (by clear k1 k5 hA t3 kc; omega) (by clear k1 k5 hA t3 kc; omega) (by clear k1 k5 hA t3 kc; omega)
      refine ⟨?_, ?_, ?_, fun _ => ⟨?_, ?_⟩⟩
      · rw [ea.1]; exact hA.s0
      · rw [ea.1, hf2.b, h11, kc.bg, nI_1]
        show _ = nI (fup (ordS B S d).bg d ((ordS B S d).bg d + 1) d)
        rw [fup_s]
      · rw [ea.1, h22]
        show _ = nI (fup (ordS B S d).da d ((ordS B S d).da d + ordK B S.T.bf d) d)
        rw [fup_s, hda]
      · show RXat τ (b + 7 + 8 * d) d (fup (ordS B S d).am d (ordA B S.T.bf d) d)
        rw [fup_s]
        exact at_c hA fun x z1 z2 => fp x (by clear k1 k5 hA t3 kc; omega) (by clear k1 k5 hA t3 kc; omega) (by clear k1 k5 hA t3 kc; omega)
      · rw [ea.1, h23]
        show _ = nI (fup (ordS B S d).dd d (ordK B S.T.bf d) d)
        rw [fup_s]
    · refine g_c (k5 d hd) (fun x z1 z2 => ?_) (fup_n e) (fup_n e) (fup_n e) (fup_n e)
      clear k1 k5 hA t3 kc
      obtain ⟨p1, p2⟩ := fp x (by omega) (by omega) (by omega)
      obtain ⟨p3, p4⟩ := f12 x (by omega)
      exact ⟨p1.trans p3, p2.trans p4⟩
  · clear k1 k5 hA t3 kc
    obtain ⟨p1, p2⟩ := fp x (by omega) (by omega) (by omega)
    obtain ⟨p3, p4⟩ := f12 x (by omega)
    obtain ⟨p5, p6⟩ := k6 x hx
    exact ⟨p1.trans (p3.trans p5), p2.trans (p4.trans p6)⟩
