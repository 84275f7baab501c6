theorem wrP_iff {σ : pST} {a c k : Nat} {A : AtS} (h : RXat σ a c A) (hk : k < 32) : wrP σ a k ↔ wrA A k = true := by
  unfold wrP wrA
  rw [bit_iff hk, h.wb k hk]
  cases (A.wb k && !A.fl) <;> simp
theorem rx_pub {σ : pST} {T : TbS} {A : AtS} {a t c num : Nat} (hc : c < 16) (ha : RXat σ a c A) (h : RXtb σ t T 16) : RXtb (pubS σ a t c (nI num) 32) t (pubT T c A num) 16 := by
  refine ⟨fun k j hk hj => ?_, fun k j hk hj hs => ?_, fun k hk => ?_⟩
  · obtain ⟨h1, h2⟩ := h.st k j hk hj
    have e1 : (k * 16 + j) % 16 = j := by omega
    have e2 : (k * 16 + j) / 16 = k := by omega
    show (if t + 2 = t + 2 ∧ (k * 16 + j) % 16 = c ∧ (k * 16 + j) / 16 < 32 then (if wrP σ a ((k * 16 + j) / 16) then nI 1 else 0) else if t + 2 = t + 3 ∧ (k * 16 + j) % 16 = c ∧ (k * 16 + j) / 16 < 32 ∧ wrP σ a ((k * 16 + j) / 16) then nI num else σ.1 (t + 2) (k * 16 + j)) = nI (if j = c then (cond (wrA A k) 1 0) else T.st j k) ∧ (if j = c then (cond (wrA A k) 1 0) else T.st j k) ≤ 2
    rw [e1, e2]
    by_cases e : j = c
    · rw [if_pos ⟨rfl, e, hk⟩, if_pos e]
      by_cases w : wrA A k = true
      · rw [if_pos ((wrP_iff ha hk).mpr w), w]; exact ⟨rfl, by decide⟩
      · rw [if_neg (fun z => w ((wrP_iff ha hk).mp z)), Bool.eq_false_iff.mpr w]; exact ⟨rfl, by decide⟩
    · rw [if_neg (fun z => e z.2.1), if_neg (by omega), if_neg e]
      exact ⟨h1, h2⟩
  · have e1 : (k * 16 + j) % 16 = j := by omega
    have e2 : (k * 16 + j) / 16 = k := by omega
    have hs' : (if j = c then (cond (wrA A k) 1 0) else T.st j k) ≠ 0 := hs
    show (if t + 3 = t + 2 ∧ _ then _ else if t + 3 = t + 3 ∧ (k * 16 + j) % 16 = c ∧ (k * 16 + j) / 16 < 32 ∧ wrP σ a ((k * 16 + j) / 16) then nI num else σ.1 (t + 3) (k * 16 + j)) = nI (if j = c ∧ wrA A k = true then num else T.nm j k) ∧ (if t + 4 = t + 4 ∧ (k * 16 + j) % 16 = c ∧ (k * 16 + j) / 16 < 32 ∧ wrP σ a ((k * 16 + j) / 16) then σ.2 (a + 1) ((k * 16 + j) / 16) else σ.2 (t + 4) (k * 16 + j)) = (if j = c ∧ wrA A k = true then A.wv k else T.vl j k)
    rw [if_neg (by omega), e1, e2]
    by_cases e : j = c
    · rw [if_pos e] at hs'
      have w : wrA A k = true := by
        cases w : wrA A k with
        | true => rfl
        | false => rw [w] at hs'; exact absurd rfl hs'
      have w3 : t + 3 = t + 3 ∧ j = c ∧ k < 32 ∧ wrP σ a k := ⟨rfl, e, hk, (wrP_iff ha hk).mpr w⟩
      have w4 : t + 4 = t + 4 ∧ j = c ∧ k < 32 ∧ wrP σ a k := ⟨rfl, e, hk, (wrP_iff ha hk).mpr w⟩
      rw [if_pos w3, if_pos w4, if_pos ⟨e, w⟩, if_pos ⟨e, w⟩]
      refine ⟨rfl, ha.wv k hk ?_⟩
      unfold wrA at w
      revert w
      cases A.wb k <;> simp
    · rw [if_neg e] at hs'
      have w3 : ¬ (t + 3 = t + 3 ∧ j = c ∧ k < 32 ∧ wrP σ a k) := fun z => e z.2.1
      have w4 : ¬ (t + 4 = t + 4 ∧ j = c ∧ k < 32 ∧ wrP σ a k) := fun z => e z.2.1
      have w5 : ¬ (j = c ∧ wrA A k = true) := fun z => e z.1
      rw [if_neg w3, if_neg w4, if_neg w5, if_neg w5]
      exact h.nv k j hk hj hs'
  · rw [pub_oj (by omega)]
    exact h.bf k hk
theorem fr_iff {σ : pST} {T : TbS} {A : AtS} {a t c : Nat} (hc : c < 16) (ha : RXat σ a c A) (h : RXtb σ t T 16) : ∀ m, m ≤ 32 → (frN σ a t c m = 0 ↔ freshA T c A m = false)
  | 0, _ => ⟨fun _ => rfl, fun _ => rfl⟩
  | m + 1, hm => by
    have ih := fr_iff hc ha h m (by omega)
    obtain ⟨h1, h2⟩ := h.st m c (by omega) hc
    unfold frN freshA
    by_cases e : frN σ a t c m = 0 ∧ wrP σ a m ∧ σ.1 (t + 2) (m * 16 + c) = 0
    · rw [if_pos e]
      have w := (wrP_iff ha (show m < 32 by omega)).mp e.2.1
      have z : T.st c m = 0 := by
        have q := e.2.2
        rw [h1] at q
        exact Classical.byContradiction fun n => nI_ne0 (by omega) (by omega) q
      rw [w, z]
      constructor
      · intro q; exact absurd q (by decide)
      · intro q
        rw [show ((0 : Nat) == 0) = true from rfl, Bool.and_true, Bool.or_true] at q
        cases q
    · rw [if_neg e, ih]
      cases hf : freshA T c A m with
      | true => simp
      | false =>
        simp only [Bool.false_or, true_iff]
        have hf0 := ih.mpr hf
        cases w : wrA A m with
        | false => rfl
        | true =>
          simp only [Bool.true_and, beq_eq_false_iff_ne]
          intro z
          exact e ⟨hf0, (wrP_iff ha (by omega)).mpr w, by rw [h1, z]; rfl⟩
theorem FrS.w {σ : pST} {I : Nat → Nat → Int32} (hx : ∀ x, x ≤ 7 ∨ 153 ≤ x → I x = σ.1 x) (h8 : I 8 2 = σ.1 8 2) : FrS σ (I, σ.2) := ⟨fun x h => ⟨hx x h, rfl⟩, h8⟩
theorem le_ne {x a b : Nat} (h : x ≤ a) (h2 : a < b) : x ≠ b := by omega
theorem ge_ne {x a b : Nat} (h : a ≤ x) (h2 : b < a) : x ≠ b := by omega
theorem fr_ne {x b : Nat} (h : x ≤ 7 ∨ 153 ≤ x) (h1 : 7 < b) (h2 : b < 153) : x ≠ b := by omega
theorem at_ne {x c b : Nat} (h : 16 + 8 * c ≤ x) (h0 : x ≤ 16 + 8 * c + 7) (hc : c < 16) (h1 : b < 16 ∨ 143 < b) : x ≠ b := by omega
theorem at_gt {c b : Nat} (h1 : b < 16) : b < 16 + 8 * c := by omega
theorem rx_end1 {σ : pST} {B : BkS} {sz bd w c : Nat} {S : RnS} (hB : BkOK B) (h : RX σ B sz bd S) (hS : SOK B sz S) (hc : c < B.n) (hb : 1 ≤ S.bg c) : ∃ σa σb, kX5_publish (pm_ui (σ.1) 150 w (nI 0), σ.2) [.inr (.inr 10), .inr (.inr (16 + 8 * c)), .inl (nI (S.nm c))] = some (σa, some (.inl (frN (pm_ui (σ.1) 150 w (nI 0), σ.2) (16 + 8 * c) 10 c 32))) ∧ kX6_wakeThoseWaitingFor (pm_ui (σa.1) 147 c (nI 2), σa.2) [.inr (.inr 8), .inl (nI c)] = some (σb, none) ∧ RX σb B sz bd (end1S S w c B.n) ∧ FrS σ σb ∧ (frN (pm_ui (σ.1) 150 w (nI 0), σ.2) (16 + 8 * c) 10 c 32 = 0 ↔ freshA S.T c (S.am c) 32 = false) := by
  have hc16 : c < 16 := Nat.lt_of_lt_of_le hc hB.n
  have hn := hB.n
  have hrr : S.rr ≤ 16 := Nat.le_trans hS.rr hn
  have hhw := hS.hw
  have haw := hS.aw
  have f1 : FrS σ (pm_ui (σ.1) 150 w (nI 0), σ.2) := FrS.w (fun x z => ui_o (fr_ne z (by decide) (by decide))) (by rw [ui_o (by decide)])
  have h1 : RXw (pm_ui (σ.1) 150 w (nI 0), σ.2) B sz bd (mkRnS S.T S.am S.bg S.dd S.da S.al S.hw S.aw S.nm (fup S.tk w 0) S.tc S.tn S.rr S.lr S.fe S.lk S.ud S.gu S.cn S.cc S.co) := uw_tk0 h.2
  have b1 : RXb (pm_ui (σ.1) 150 w (nI 0), σ.2) B S := b_w (σ := σ) (S := S) h.1 fun x z1 z2 z3 z4 => ui_o (le_ne z2 (by decide))
  clear h hB hS
  generalize (pm_ui (σ.1) 150 w (nI 0), σ.2) = σ1 at h1 b1 f1 ⊢
  have hA := (b1.a c hc16).am hb
  have ep := ev_X5_publish σ1 (a := 16 + 8 * c) (t := 10) (isA9 hc16) isT10 (Or.inr (at_gt (by decide))) hc16 (b1.a c hc16).s0 (nI (S.nm c))
  have t2 := rx_pub (a := 16 + 8 * c) (t := 10) (num := S.nm c) hc16 hA.1 b1.tb
  have hfr := fr_iff (a := 16 + 8 * c) (t := 10) hc16 hA.1 b1.tb 32 (Nat.le_refl _)
  have f2 : ∀ x, x ≠ 12 → x ≠ 13 → x ≠ 14 → (pubS σ1 (16 + 8 * c) 10 c (nI (S.nm c)) 32).1 x = σ1.1 x ∧ (pubS σ1 (16 + 8 * c) 10 c (nI (S.nm c)) 32).2 x = σ1.2 x := fun x z1 z2 z3 => ⟨pub_oi z1 z2, pub_oj z3⟩
  refine ⟨_, (wkI (pm_ui ((pubS σ1 (16 + 8 * c) 10 c (nI (S.nm c)) 32).1) 147 c (nI 2)) (mkRnS (pubT S.T c (S.am c) (S.nm c)) S.am S.bg S.dd S.da S.al (fup S.hw c 2) S.aw S.nm (fup S.tk w 0) S.tc S.tn S.rr S.lr S.fe S.lk S.ud S.gu S.cn S.cc S.co) c B.n, (pubS σ1 (16 + 8 * c) 10 c (nI (S.nm c)) 32).2), ep, ?_⟩
  clear ep
  generalize pubS σ1 (16 + 8 * c) 10 c (nI (S.nm c)) 32 = σa at t2 f2 ⊢
  have h2 : RXw σa B sz bd (mkRnS S.T S.am S.bg S.dd S.da S.al S.hw S.aw S.nm (fup S.tk w 0) S.tc S.tn S.rr S.lr S.fe S.lk S.ud S.gu S.cn S.cc S.co) := uw_c h1 (f2 8 (by decide) (by decide) (by decide)).1 (f2 9 (by decide) (by decide) (by decide)).1 fun x z1 z2 => (f2 x (ge_ne z1 (by decide)) (ge_ne z1 (by decide)) (ge_ne z1 (by decide))).1
  have h3 : RXw (pm_ui (σa.1) 147 c (nI 2), σa.2) B sz bd (mkRnS (pubT S.T c (S.am c) (S.nm c)) S.am S.bg S.dd S.da S.al (fup S.hw c 2) S.aw S.nm (fup S.tk w 0) S.tc S.tn S.rr S.lr S.fe S.lk S.ud S.gu S.cn S.cc S.co) := uw_hw h2 (by decide)
  have h4 := uw_wake h3 (c := c)
  have ek := ev_X6_wakeThoseWaitingFor (pm_ui (σa.1) 147 c (nI 2), σa.2) (S := (mkRnS (pubT S.T c (S.am c) (S.nm c)) S.am S.bg S.dd S.da S.al (fup S.hw c 2) S.aw S.nm (fup S.tk w 0) S.tc S.tn S.rr S.lr S.fe S.lk S.ud S.gu S.cn S.cc S.co)) hc16 h3.n hn hrr (fun i hi => ⟨h3.hw i (Nat.lt_of_lt_of_le hi hn), by
      show fup S.hw c 2 i ≤ 3
      by_cases e : i = c
      · subst e; rw [fup_s]; decide
      · rw [fup_n e]; exact hhw i, fun q => ⟨h3.aw i (Nat.lt_of_lt_of_le hi hn) q, by
      have q' : fup S.hw c 2 i = 3 := q
      by_cases e : i = c
      · subst e; rw [fup_s] at q'; cases q'
      · rw [fup_n e] at q'; exact haw i q'⟩⟩) h3.rr
  clear h1 h2 h3
  have fw : ∀ x, x ≠ 8 → x ≠ 147 → wkI (pm_ui (σa.1) 147 c (nI 2)) (mkRnS (pubT S.T c (S.am c) (S.nm c)) S.am S.bg S.dd S.da S.al (fup S.hw c 2) S.aw S.nm (fup S.tk w 0) S.tc S.tn S.rr S.lr S.fe S.lk S.ud S.gu S.cn S.cc S.co) c B.n x = σa.1 x := fun x z1 z2 => by
    funext y
    unfold wkI
    rw [if_neg (fun q => z2 q.1), if_neg (fun q => z1 q.1), ui_o z2]
  have fw8 : wkI (pm_ui (σa.1) 147 c (nI 2)) (mkRnS (pubT S.T c (S.am c) (S.nm c)) S.am S.bg S.dd S.da S.al (fup S.hw c 2) S.aw S.nm (fup S.tk w 0) S.tc S.tn S.rr S.lr S.fe S.lk S.ud S.gu S.cn S.cc S.co) c B.n 8 2 = σa.1 8 2 := by
    unfold wkI
    rw [if_neg (fun q => absurd q.1 (by decide)), if_neg (fun q => absurd q.2 (by decide)), ui_o (by decide)]
  generalize wkI (pm_ui (σa.1) 147 c (nI 2)) (mkRnS (pubT S.T c (S.am c) (S.nm c)) S.am S.bg S.dd S.da S.al (fup S.hw c 2) S.aw S.nm (fup S.tk w 0) S.tc S.tn S.rr S.lr S.fe S.lk S.ud S.gu S.cn S.cc S.co) c B.n = I at h4 ek fw fw8 ⊢
  have fx : ∀ x, x ≠ 8 → x ≠ 147 → x ≠ 12 → x ≠ 13 → x ≠ 14 → I x = σ1.1 x ∧ σa.2 x = σ1.2 x := fun x z1 z2 z3 z4 z5 => ⟨(fw x z1 z2).trans (f2 x z3 z4 z5).1, (f2 x z3 z4 z5).2⟩
  refine ⟨ek, ⟨⟨?_, ?_, fun d hd => ?_⟩, h4⟩, ?_, hfr⟩
  · exact bk_c b1.bk fun x z1 z2 => fx x (le_ne z2 (by decide)) (le_ne z2 (by decide)) (le_ne z2 (by decide)) (le_ne z2 (by decide)) (le_ne z2 (by decide))
  · exact tb_c t2 fun x z1 z2 => ⟨fw x (ge_ne z1 (by decide)) (le_ne z2 (by decide)), rfl⟩
  · exact a_s (a_c (b1.a d hd) fun x z1 z2 => fx x (at_ne z1 z2 hd (by decide)) (at_ne z1 z2 hd (by decide)) (at_ne z1 z2 hd (by decide)) (at_ne z1 z2 hd (by decide)) (at_ne z1 z2 hd (by decide))) rfl rfl rfl rfl
  · exact f1.trans ⟨fun x z => fx x (fr_ne z (by decide) (by decide)) (fr_ne z (by decide) (by decide)) (fr_ne z (by decide) (by decide)) (fr_ne z (by decide) (by decide)) (fr_ne z (by decide) (by decide)), fw8.trans (by rw [(f2 8 (by decide) (by decide) (by decide)).1])⟩
