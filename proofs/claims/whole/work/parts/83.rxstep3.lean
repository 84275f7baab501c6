theorem rx_act {σ ρ : pST} {B : BkS} {sz bd c : Nat} {S : RnS} {A : AtS} (h : RX σ B sz bd S) (hc : c < 16) (hb : 1 ≤ S.bg c) (hA : RXat ρ (16 + 8 * c) c A) (fr : FrO σ ρ (16 + 8 * c)) (h2 : ρ.1 (16 + 8 * c) 2 = σ.1 (16 + 8 * c) 2 + 1) (h3 : ρ.1 (16 + 8 * c) 3 = σ.1 (16 + 8 * c) 3 + 1) : RX ρ B sz bd (actS S c A) ∧ FrS σ ρ := by
  obtain ⟨hx, hh⟩ := h
  refine ⟨⟨⟨?_, ?_, fun d hd => ?_⟩, ?_⟩, ⟨fun x z => fr.o x (by omega), by rw [(fr.o 8 (by omega)).1]⟩⟩
  · exact bk_c hx.bk fun x z1 z2 => fr.o x (by omega)
  · exact tb_c hx.tb fun x z1 z2 => fr.o x (by omega)
  · by_cases e : d = c
    · subst e
      have hd2 := hx.a d hd
      refine ⟨hA.s0, ?_, ?_, fun _ => ?_⟩
      · rw [fr.b]; exact hd2.bg
      · rw [h2, hd2.da, nI_1]
        show _ = nI (fup S.da d (S.da d + 1) d)
        rw [fup_s]
      · show RXat ρ (16 + 8 * d) d (fup S.am d A d) ∧ ρ.1 (16 + 8 * d) 3 = nI (fup S.dd d (S.dd d + 1) d)
        rw [fup_s, fup_s, h3, (hd2.am hb).2, nI_1]
        exact ⟨hA, rfl⟩
    · exact a_s (a_c (hx.a d hd) fun x z1 z2 => fr.o x (by omega)) rfl (fup_n e) (fup_n e) (fup_n e)
  · exact uw_c (S := S) hh (fr.o 8 (by omega)).1 (fr.o 9 (by omega)).1 fun x z1 z2 => (fr.o x (by omega)).1
theorem rx_same {σ ρ : pST} {B : BkS} {sz bd c : Nat} {S : RnS} (h : RX σ B sz bd S) (hc : c < 16) (hb : 1 ≤ S.bg c) (hA : RXat ρ (16 + 8 * c) c (S.am c)) (fr : FrO σ ρ (16 + 8 * c)) (h2 : ρ.1 (16 + 8 * c) 2 = σ.1 (16 + 8 * c) 2) (h3 : ρ.1 (16 + 8 * c) 3 = σ.1 (16 + 8 * c) 3) : RX ρ B sz bd S ∧ FrS σ ρ := by
  obtain ⟨hx, hh⟩ := h
  refine ⟨⟨⟨?_, ?_, fun d hd => ?_⟩, ?_⟩, ⟨fun x z => fr.o x (by omega), by rw [(fr.o 8 (by omega)).1]⟩⟩
  · exact bk_c hx.bk fun x z1 z2 => fr.o x (by omega)
  · exact tb_c hx.tb fun x z1 z2 => fr.o x (by omega)
  · by_cases e : d = c
    · subst e
      have hd2 := hx.a d hd
      refine ⟨hA.s0, ?_, ?_, fun _ => ?_⟩
      · rw [fr.b]; exact hd2.bg
      · rw [h2, hd2.da]
      · rw [h3, (hd2.am hb).2]
        exact ⟨hA, rfl⟩
    · exact a_c (hx.a d hd) fun x z1 z2 => fr.o x (by omega)
  · exact uw_c (S := S) hh (fr.o 8 (by omega)).1 (fr.o 9 (by omega)).1 fun x z1 z2 => (fr.o x (by omega)).1
theorem tb_le {σ : pST} {t m n : Nat} {T : TbS} (h : RXtb σ t T m) (hn : n ≤ m) : RXtb σ t T n := ⟨fun k j hk hj => h.st k j hk (by omega), fun k j hk hj => h.nv k j hk (by omega), h.bf⟩
theorem oI_m1 {j : Nat} (h : j < 16) : ¬ oI (some j) = -1 := by
  show ¬ nI j = -1
  intro z
  have : ∀ j, j < 16 → ¬ nI j = -1 := by decide
  exact this j h z
theorem rx_goOn {σ : pST} {B : BkS} {sz bd w : Nat} {S : RnS} (hB : BkOK B) (h : RX σ B sz bd S) (hS : SOK B sz S) (hf : S.fe = false) (hw : w < 4) (h1 : S.tk w = 1) (hcn : S.cn < 2 ^ 30) : ∃ ρ, kX6_goOn σ [.inr (.inr 8), .inl (nI w), .inr (.inr 2)] = some (ρ, none) ∧ RX ρ B sz bd (runS B S w) ∧ FrS σ ρ := by
  obtain ⟨hc, hb⟩ := hS.tc w (by omega)
  have hc16 : S.tc w < 16 := Nat.lt_of_lt_of_le hc hB.n
  have hA := (h.1.a _ hc16).am hb
  have hk := hS.am _ hc16 hb
  have htc := h.2.tc w hw (by omega)
  unfold runS
  by_cases ho : overA B (S.tc w) (S.am (S.tc w))
  · rw [if_pos ho]
    have e1 := rx_doNext_o (t := 10) (isA9 hc16) hB h.1.bk hA.1 hk hc ho
    have e2 := rx_isOver (isA9 hc16) hB h.1.bk hA.1 hk hc
    rw [if_pos ho] at e2
    obtain ⟨ρ, e3, r, fr⟩ := rx_end (w := w) hB h hS hf hw hc hb
    exact ⟨ρ, ev_X6_goOn_e σ hw hc16 htc e1 rfl e2 e3, r, fr⟩
  · rw [if_neg ho]
    obtain ⟨σa, e1, r1, f1, d2, d3⟩ := rx_doNext (a := 16 + 8 * S.tc w) (t := 10) (isA9 hc16) isT10 (by omega) hB h.1.bk (tb_le h.1.tb (by omega)) hA.1 hk hc ho
    have hok := doA_ok (T := S.T) hB hc16 hk ho
    cases hd : doA B S.T (S.tc w) (S.am (S.tc w)) with
    | mk o A =>
      rw [hd] at e1 r1 d2 d3 hok
      cases o with
      | some j =>
        obtain ⟨eA, hj, _⟩ := doA_some hd
        obtain ⟨r2, f2⟩ := rx_same h hc16 hb (by rw [← eA]; exact r1) f1 (by rw [d2]; rfl) (by rw [d3]; rfl)
        obtain ⟨ρ, e3, r, fr⟩ := rx_giveUp (w := w) (c := S.tc w) (j := j) r2 hw hc16 hcn
        exact ⟨ρ, ev_X6_goOn_u σ hw hc16 htc e1 (oI_m1 (by omega)) e3, r, f2.trans fr⟩
      | none =>
        obtain ⟨r2, f2⟩ := rx_act h hc16 hb r1 f1 (by rw [d2]; rfl) (by rw [d3]; rfl)
        have e2 := rx_isOver (isA9 hc16) hB r2.1.bk r1 hok hc
        show ∃ ρ, _ = _ ∧ RX ρ B sz bd (if overA B (S.tc w) A then endS B (actS S (S.tc w) A) w (S.tc w) else actS S (S.tc w) A) ∧ _
        by_cases ho2 : overA B (S.tc w) A
        · rw [if_pos ho2] at e2 ⊢
          obtain ⟨ρ, e3, r, fr⟩ := rx_end (w := w) (c := S.tc w) hB r2 (sok_act hS hok) hf hw hc hb
          exact ⟨ρ, ev_X6_goOn_e σ hw hc16 htc e1 rfl e2 e3, r, f2.trans fr⟩
        · rw [if_neg ho2] at e2 ⊢
          exact ⟨σa, ev_X6_goOn_n σ hw hc16 htc e1 rfl e2, r2, f2⟩
