theorem frm_b {σ ρ : pST} {c : Nat} (h : FrM σ ρ c) : FrB σ ρ c := fun x y h1 _ => h x y h1
theorem rm_act {σ ρ : pST} {B : BkS} {bd c : Nat} {S : RnS} {A : AtS} (h : RM σ B bd S) (hok : ∀ d, d < 16 → 1 ≤ S.bg d → AtOK d (S.am d)) (hc : c < 16) (hb : 1 ≤ S.bg c) (hA : RMat ρ c A) (fr : FrM σ ρ c) (h2 : ρ.1 0 22 = σ.1 0 22 + 1) (h3 : ρ.1 20 c = σ.1 20 c + 1) : RM ρ B bd (actS S c A) ∧ FrR σ ρ := by
  have r2 := frm_b fr
  obtain ⟨hx, hh⟩ := h
  refine ⟨⟨?_, ?_⟩, ⟨frb_0 r2 (by decide) (by decide) (by decide) (by decide) (by decide), frb_0 r2 (by decide) (by decide) (by decide) (by decide) (by decide)⟩⟩
  · refine mb_call (S' := actS S c A) r2 hx hok rfl ⟨?_, fun _ => ?_⟩ fun d hd => ⟨rfl, fup_n hd, fup_n hd⟩
    · rw [(fr 19 c (by clear hx hh hA; omega)).1]; exact (hx.a c hc).bg
    · show RMat ρ c (fup S.am c A c) ∧ ρ.1 20 c = nI (fup S.dd c (S.dd c + 1) c)
      rw [fup_s, fup_s, h3, ((hx.a c hc).am hb).2, nI_1]
      exact ⟨hA, rfl⟩
  · exact um_c hh (fun y z1 z2 => by
      obtain ⟨n1, n2, n3, n4⟩ := slW_ne z1 z2
      exact frb_0 r2 z2 n1 n2 n3 n4) (by rw [h2, hh.al, nI_1]; rfl) (fun x z1 z2 => (frb_o r2 (.inr (Nat.le_trans (by decide) z1))).1) rfl rfl rfl rfl rfl rfl rfl rfl rfl rfl rfl rfl rfl rfl rfl
theorem rm_same {σ ρ : pST} {B : BkS} {bd c : Nat} {S : RnS} (h : RM σ B bd S) (hok : ∀ d, d < 16 → 1 ≤ S.bg d → AtOK d (S.am d)) (hc : c < 16) (hb : 1 ≤ S.bg c) (hA : RMat ρ c (S.am c)) (fr : FrM σ ρ c) (h2 : ρ.1 0 22 = σ.1 0 22) (h3 : ρ.1 20 c = σ.1 20 c) : RM ρ B bd S ∧ FrR σ ρ := by
  have r2 := frm_b fr
  obtain ⟨hx, hh⟩ := h
  refine ⟨⟨?_, ?_⟩, ⟨frb_0 r2 (by decide) (by decide) (by decide) (by decide) (by decide), frb_0 r2 (by decide) (by decide) (by decide) (by decide) (by decide)⟩⟩
  · refine mb_call (S' := S) r2 hx hok rfl ⟨?_, fun _ => ?_⟩ fun d hd => ⟨rfl, rfl, rfl⟩
    · rw [(fr 19 c (by clear hx hh hA; omega)).1]; exact (hx.a c hc).bg
    · rw [h3, ((hx.a c hc).am hb).2]
      exact ⟨hA, rfl⟩
  · exact um_c hh (fun y z1 z2 => by
      obtain ⟨n1, n2, n3, n4⟩ := slW_ne z1 z2
      exact frb_0 r2 z2 n1 n2 n3 n4) (by rw [h2, hh.al]) (fun x z1 z2 => (frb_o r2 (.inr (Nat.le_trans (by decide) z1))).1) rfl rfl rfl rfl rfl rfl rfl rfl rfl rfl rfl rfl rfl rfl rfl
theorem rm_up {σ : pST} {B : BkS} {bd w c j : Nat} {S : RnS} (h : RM σ B bd S) (hcn : S.cn < 2 ^ 30) : ∃ ρ, kX8_conflict0 (pm_ui (pm_ui (pm_ui (pm_ui (σ.1) 25 c (nI 3)) 27 c (nI j)) 28 w (nI 0)) 0 44 (nI (S.gu + 1)), σ.2) [.inr (.inr 0), .inl (nI c), .inl (nI j)] = some (ρ, none) ∧ RM ρ B bd (upS S w c j) ∧ FrR σ ρ := by
  obtain ⟨hb, hh⟩ := h
  have h1 : RMw (pm_ui (pm_ui (pm_ui (pm_ui (σ.1) 25 c (nI 3)) 27 c (nI j)) 28 w (nI 0)) 0 44 (nI (S.gu + 1)), σ.2) bd (mkRnS S.T S.am S.bg S.dd S.da S.al (fup S.hw c 3) (fup S.aw c j) S.nm (fup S.tk w 0) S.tc S.tn S.rr S.lr S.fe S.lk S.ud (S.gu + 1) S.cn S.cc S.co) := um_gu (um_tk0 (um_wait hh))
  have fr : ∀ x y, x ≠ 25 → x ≠ 27 → x ≠ 28 → ¬ (x = 0 ∧ y = 44) → (pm_ui (pm_ui (pm_ui (pm_ui (σ.1) 25 c (nI 3)) 27 c (nI j)) 28 w (nI 0)) 0 44 (nI (S.gu + 1))) x y = σ.1 x y := fun x y z1 z2 z3 z4 => by rw [pm_ui_a, if_neg z4, ui_o z3, ui_o z2, ui_o z1]
  have b1 : RMb (pm_ui (pm_ui (pm_ui (pm_ui (σ.1) 25 c (nI 3)) 27 c (nI j)) 28 w (nI 0)) 0 44 (nI (S.gu + 1)), σ.2) B (mkRnS S.T S.am S.bg S.dd S.da S.al (fup S.hw c 3) (fup S.aw c j) S.nm (fup S.tk w 0) S.tc S.tn S.rr S.lr S.fe S.lk S.ud (S.gu + 1) S.cn S.cc S.co) := mb_s (S := S) (mb_w (σ := σ) hb (fr 0 1 (by decide) (by decide) (by decide) (by decide)) fun x z1 z2 => by
    funext y
    exact fr x y (le_ne z2 (by decide)) (le_ne z2 (by decide)) (le_ne z2 (by decide)) (fun z => absurd z.1 (ge_ne z1 (by decide)))) rfl rfl rfl rfl
  obtain ⟨ρ, e, r, f, _⟩ := rm_note (c := c) (o := some j) ⟨b1, h1⟩ hcn
  exact ⟨ρ, e, r, FrR.trans ⟨fr 0 39 (by decide) (by decide) (by decide) (by decide), fr 0 40 (by decide) (by decide) (by decide) (by decide)⟩ f⟩
theorem rm_runStep {σ : pST} {B : BkS} {sz bd w : Nat} {S : RnS} (hB : BkOK B) (h : RM σ B bd S) (hS : SOK B sz S) (hw : w < 4) (h1 : S.tk w = 1) (hcn : S.cn < 2 ^ 30) : ∃ ρ, kX8_runStep σ [.inr (.inr 0), .inl (nI w)] = some (ρ, none) ∧ RM ρ B bd (runS B S w) ∧ FrR σ ρ := by
  obtain ⟨hc, hb⟩ := hS.tc w (by rw [h1]; decide)
  have hc16 : S.tc w < 16 := Nat.lt_of_lt_of_le hc hB.n
  have hA := (h.1.a _ hc16).am hb
  have hk := hS.am _ hc16 hb
  have htc := h.2.tc w hw (by rw [h1]; decide)
  unfold runS
  by_cases ho : overA B (S.tc w) (S.am (S.tc w))
  · rw [if_pos ho]
    have e2 := rm_isOver hB h.1.bk hA.1 hk hc
    rw [if_pos ho] at e2
    obtain ⟨ρ, e3, r, fr⟩ := rm_ends (w := w) hB h hS hw hc hb
    exact ⟨ρ, ev_X8_runStep_o σ hw hc16 htc e2 e3, r, fr⟩
  · rw [if_neg ho]
    have e0 := rm_isOver hB h.1.bk hA.1 hk hc
    rw [if_neg ho] at e0
    obtain ⟨σa, e1, r1, f1, d2, d3⟩ := rm_doAct (T := S.T) hB h.1.bk ⟨fun k j hk hj => h.1.tb.st k j hk (Nat.lt_trans hj hc16), fun k j hk hj => h.1.tb.nv k j hk (Nat.lt_trans hj hc16), h.1.tb.bf⟩ h.1.z hA.1 hk hc ho
    have hok := doA_ok (T := S.T) hB hc16 hk ho
    cases hd : doA B S.T (S.tc w) (S.am (S.tc w)) with
    | mk o A =>
      rw [hd] at e1 r1 d2 d3 hok
      cases o with
      | some j =>
        obtain ⟨eA, hj, _⟩ := doA_some hd
        obtain ⟨r2, f2⟩ := rm_same h hS.am hc16 hb (by rw [← eA]; exact r1) f1 (by rw [d2]; rfl) (by rw [d3]; rfl)
        obtain ⟨ρ, e3, r, fr⟩ := rm_up (w := w) (c := S.tc w) (j := j) r2 hcn
        exact ⟨ρ, ev_X8_runStep_u σ hw hc16 htc e0 e1 (oI_m1 (Nat.lt_trans hj hc16)) r2.2.gu e3, r, f2.trans fr⟩
      | none =>
        obtain ⟨r2, f2⟩ := rm_act h hS.am hc16 hb r1 f1 (by rw [d2]; rfl) (by rw [d3]; rfl)
        have e2 := rm_isOver hB r2.1.bk r1 hok hc
        show ∃ ρ, _ = _ ∧ RM ρ B bd (if overA B (S.tc w) A then endS B (actS S (S.tc w) A) w (S.tc w) else actS S (S.tc w) A) ∧ _
        by_cases ho2 : overA B (S.tc w) A
        · rw [if_pos ho2] at e2 ⊢
          obtain ⟨ρ, e3, r, fr⟩ := rm_ends (w := w) (c := S.tc w) hB r2 (sok_act hS hok) hw hc hb
          exact ⟨ρ, ev_X8_runStep_e σ hw hc16 htc e0 e1 rfl e2 e3, r, f2.trans fr⟩
        · rw [if_neg ho2] at e2 ⊢
          exact ⟨σa, ev_X8_runStep_n σ hw hc16 htc e0 e1 rfl e2, r2, f2⟩
