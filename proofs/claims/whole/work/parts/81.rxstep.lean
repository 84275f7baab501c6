/-! ===== a turn of the class is a turn of the plain machine ===== -/
theorem a_s {σ : pST} {S S' : RnS} {c : Nat} (h : RXa σ S c) (h1 : S'.bg c = S.bg c) (h2 : S'.da c = S.da c) (h3 : S'.am c = S.am c) (h4 : S'.dd c = S.dd c) : RXa σ S' c := by
  obtain ⟨k1, k2, k3, k4⟩ := h
  exact ⟨k1, by rw [h1]; exact k2, by rw [h2]; exact k3, fun z => by rw [h3, h4]; exact k4 (by rw [← h1]; exact z)⟩
theorem ui_o {I : Nat → Nat → Int32} {a k x : Nat} {v : Int32} (h : x ≠ a) : pm_ui I a k v x = I x := pm_ui_n h
theorem rx_giveRun {σ : pST} {B : BkS} {sz bd w c : Nat} {S : RnS} (h : RX σ B sz bd S) (hw : w < 4) (hc : c < 16) : ∃ ρ, kX6_giveRun σ [.inr (.inr 8), .inl (nI w), .inl (nI c)] = some (ρ, none) ∧ RX ρ B sz bd (toRunS S w c) ∧ FrS σ ρ := by
  obtain ⟨hb, hh⟩ := h
  have h1 : RXw (pm_ui (pm_ui (pm_ui (σ.1) 150 w (nI 1)) 151 w (nI c)) 147 c (nI 1), σ.2) B sz bd (toRunS S w c) := uw_hw (uw_run hh) (by decide)
  have fr : ∀ x, x ≠ 150 → x ≠ 151 → x ≠ 147 → (pm_ui (pm_ui (pm_ui (σ.1) 150 w (nI 1)) 151 w (nI c)) 147 c (nI 1)) x = σ.1 x := fun x z1 z2 z3 => by rw [ui_o z3, ui_o z2, ui_o z1]
  obtain ⟨ρ, e, r1, r2, r3, r4, r5, r6⟩ := rx_begin (σ := (pm_ui (pm_ui (pm_ui (σ.1) 150 w (nI 1)) 151 w (nI c)) 147 c (nI 1), σ.2)) (a := 16 + 8 * c) (isA9 hc) (by
    show (pm_ui (pm_ui (pm_ui (σ.1) 150 w (nI 1)) 151 w (nI c)) 147 c (nI 1)) (16 + 8 * c) 0 = nI c
    rw [fr _ (by omega) (by omega) (by omega)]
    exact (hb.a c hc).s0)
  have fr2 : ∀ x, x < 16 + 8 * c ∨ 16 + 8 * c + 7 < x → x ≠ 150 → x ≠ 151 → x ≠ 147 → ρ.1 x = σ.1 x ∧ ρ.2 x = σ.2 x := fun x z0 z1 z2 z3 => ⟨(r2 x z0).1.trans (fr x z1 z2 z3), (r2 x z0).2⟩
  have ea : (pm_ui (pm_ui (pm_ui (σ.1) 150 w (nI 1)) 151 w (nI c)) 147 c (nI 1)) (16 + 8 * c) = σ.1 (16 + 8 * c) := fr _ (by omega) (by omega) (by omega)
  refine ⟨ρ, ev_X6_giveRun σ hw hc e, ⟨⟨?_, ?_, fun d hd => ?_⟩, ?_⟩, ⟨fun x hx => fr2 x (by omega) (by omega) (by omega) (by omega), by rw [(fr2 8 (by omega) (by omega) (by omega) (by omega)).1]⟩⟩
  · exact bk_c hb.bk fun x z1 z2 => fr2 x (by omega) (by omega) (by omega) (by omega)
  · exact tb_c hb.tb fun x z1 z2 => fr2 x (by omega) (by omega) (by omega) (by omega)
  · by_cases e : d = c
    · subst e
      refine ⟨r1.s0, ?_, ?_, fun _ => ?_⟩
      · rw [r3]
        show (pm_ui (pm_ui (pm_ui (σ.1) 150 w (nI 1)) 151 w (nI d)) 147 d (nI 1)) (16 + 8 * d) 1 + 1 = nI (fup S.bg d (S.bg d + 1) d)
        rw [ea, (hb.a d hd).bg, fup_s, nI_1]
      · rw [r5]
        show (pm_ui (pm_ui (pm_ui (σ.1) 150 w (nI 1)) 151 w (nI d)) 147 d (nI 1)) (16 + 8 * d) 2 = nI (S.da d)
        rw [ea, (hb.a d hd).da]
      · show RXat ρ (16 + 8 * d) d (fup S.am d at0 d) ∧ ρ.1 (16 + 8 * d) 3 = nI (fup S.dd d 0 d)
        rw [fup_s, fup_s, r6]
        exact ⟨r1, rfl⟩
    · exact a_s (a_c (hb.a d hd) fun x z1 z2 => fr2 x (by omega) (by omega) (by omega) (by omega)) (fup_n e) rfl (fup_n e) (fup_n e)
  · exact uw_c h1 (r2 8 (by omega)).1 (r2 9 (by omega)).1 fun x z1 z2 => (r2 x (by omega)).1
theorem rx_giveLook {σ : pST} {B : BkS} {sz bd w c : Nat} {S : RnS} (h : RX σ B sz bd S) (hw : w < 4) (hc : c < 16) : ∃ ρ, kX6_giveLook σ [.inr (.inr 8), .inl (nI w), .inl (nI c)] = some (ρ, none) ∧ RX ρ B sz bd (toLookS S w c) ∧ FrS σ ρ := by
  obtain ⟨hb, hh⟩ := h
  have fr : ∀ x, x ≠ 150 → x ≠ 151 → x ≠ 152 → (pm_ui (pm_ui (pm_ui (σ.1) 150 w (nI 2)) 151 w (nI c)) 152 w (nI (S.nm c))) x = σ.1 x := fun x z1 z2 z3 => by rw [ui_o z3, ui_o z2, ui_o z1]
  have e := ev_X6_giveLook σ hw hc
  rw [hh.nm c hc] at e
  refine ⟨_, e, ⟨b_w (S := S) hb fun x z1 z2 z3 z4 => fr x (by omega) (by omega) (by omega), uw_look hh rfl⟩, ⟨fun x hx => ⟨fr x (by omega) (by omega) (by omega), rfl⟩, ?_⟩⟩
  show (pm_ui (pm_ui (pm_ui (σ.1) 150 w (nI 2)) 151 w (nI c)) 152 w (nI (S.nm c))) 8 2 = _
  rw [fr 8 (by omega) (by omega) (by omega)]
theorem rx_giveUp {σ : pST} {B : BkS} {sz bd w c j : Nat} {S : RnS} (h : RX σ B sz bd S) (hw : w < 4) (hc : c < 16) (hcn : S.cn < 2 ^ 30) : ∃ ρ, kX6_giveUp σ [.inr (.inr 8), .inl (nI w), .inl (nI c), .inl (nI j)] = some (ρ, none) ∧ RX ρ B sz bd (upS S w c j) ∧ FrS σ ρ := by
  obtain ⟨hb, hh⟩ := h
  have h1 : RXw (pm_ui (pm_ui (pm_ui (pm_ui (σ.1) 150 w (nI 0)) 147 c (nI 3)) 148 c (nI j)) 8 5 (nI (S.gu + 1)), σ.2) B sz bd (mkRnS S.T S.am S.bg S.dd S.da S.al (fup S.hw c 3) (fup S.aw c j) S.nm (fup S.tk w 0) S.tc S.tn S.rr S.lr S.fe S.lk S.ud (S.gu + 1) S.cn S.cc S.co) := uw_gu (uw_wait (uw_tk0 hh))
  have fr : ∀ x, x ≠ 150 → x ≠ 147 → x ≠ 148 → x ≠ 8 → (pm_ui (pm_ui (pm_ui (pm_ui (σ.1) 150 w (nI 0)) 147 c (nI 3)) 148 c (nI j)) 8 5 (nI (S.gu + 1))) x = σ.1 x := fun x z1 z2 z3 z4 => by rw [ui_o z4, ui_o z3, ui_o z2, ui_o z1]
  have e := ev_X3_note (pm_ui (pm_ui (pm_ui (pm_ui (σ.1) 150 w (nI 0)) 147 c (nI 3)) 148 c (nI j)) 8 5 (nI (S.gu + 1)), σ.2) (m := S.cn) h1.cn hcn (nI c) (nI j)
  have h2 := uw_note h1 (c := c) (oo := some j)
  have fr2 : ∀ x, x ≠ 150 → x ≠ 147 → x ≠ 148 → x ≠ 8 → x ≠ 144 → x ≠ 145 → x ≠ 146 → (pm_ui (if S.cn < 200 then pm_ui (pm_ui ((pm_ui (pm_ui (pm_ui (pm_ui (σ.1) 150 w (nI 0)) 147 c (nI 3)) 148 c (nI j)) 8 5 (nI (S.gu + 1)))) 145 S.cn (nI c)) 146 S.cn (nI j) else ((pm_ui (pm_ui (pm_ui (pm_ui (σ.1) 150 w (nI 0)) 147 c (nI 3)) 148 c (nI j)) 8 5 (nI (S.gu + 1))))) 144 0 (nI (S.cn + 1))) x = σ.1 x := fun x z1 z2 z3 z4 z5 z6 z7 => by
    rw [ui_o z5]
    split
    · rw [ui_o z7, ui_o z6, fr x z1 z2 z3 z4]
    · exact fr x z1 z2 z3 z4
  have e8 : (pm_ui (pm_ui (pm_ui (pm_ui (σ.1) 150 w (nI 0)) 147 c (nI 3)) 148 c (nI j)) 8 5 (nI (S.gu + 1))) 8 2 = σ.1 8 2 := by simp [pm_ui_a]
  have e9 : (pm_ui (if S.cn < 200 then pm_ui (pm_ui ((pm_ui (pm_ui (pm_ui (pm_ui (σ.1) 150 w (nI 0)) 147 c (nI 3)) 148 c (nI j)) 8 5 (nI (S.gu + 1)))) 145 S.cn (nI c)) 146 S.cn (nI j) else ((pm_ui (pm_ui (pm_ui (pm_ui (σ.1) 150 w (nI 0)) 147 c (nI 3)) 148 c (nI j)) 8 5 (nI (S.gu + 1))))) 144 0 (nI (S.cn + 1))) 8 2 = σ.1 8 2 := by
    rw [ui_o (show 8 ≠ 144 by decide)]
    split
    · rw [ui_o (show 8 ≠ 146 by decide), ui_o (show 8 ≠ 145 by decide), e8]
    · exact e8
  exact ⟨_, ev_X6_giveUp σ hw hc hh.gu e, ⟨b_c (σ := σ) (S := S) hb fun x z1 z2 z3 z4 => ⟨fr2 x (by omega) (by omega) (by omega) (by omega) (by omega) (by omega) (by omega), rfl⟩, h2⟩, ⟨fun x hx => ⟨fr2 x (by omega) (by omega) (by omega) (by omega) (by omega) (by omega) (by omega), rfl⟩, e9⟩⟩
theorem dbt_x {σ : pST} {t c : Nat} (hc : c < 16) : ∀ m, dbtS σ t c m = ((fun x y => if x = t + 2 ∧ y % 16 = c ∧ y / 16 < m ∧ ¬ σ.1 (t + 2) y = 0 then nI 2 else σ.1 x y), σ.2)
  | 0 => by
    refine Prod.ext ?_ rfl
    funext x y
    show σ.1 x y = if _ then _ else _
    rw [if_neg (by omega)]
  | m + 1 => by
    unfold dbtS
    rw [dbt_x hc m]
    split
    · rename_i hz
      refine Prod.ext ?_ rfl
      funext x y
      show (if _ then _ else _) = if _ then _ else _
      by_cases e : x = t + 2 ∧ y % 16 = c ∧ y / 16 < m ∧ ¬ σ.1 (t + 2) y = 0
      · rw [if_pos e, if_pos ⟨e.1, e.2.1, by omega, e.2.2.2⟩]
      · rw [if_neg e, if_neg]
        rintro ⟨z1, z2, z3, z4⟩
        by_cases e2 : y / 16 = m
        · exact z4 (by rw [show y = m * 16 + c by omega]; exact hz)
        · exact e ⟨z1, z2, by omega, z4⟩
    · rename_i hz
      refine Prod.ext ?_ rfl
      funext x y
      show pm_ui _ _ _ _ x y = if _ then _ else _
      rw [pm_ui_a]
      by_cases e0 : x = t + 2 ∧ y = m * 16 + c
      · rw [if_pos e0, if_pos ⟨e0.1, by omega, by omega, by rw [e0.2]; exact hz⟩]
      · rw [if_neg e0]
        dsimp only
        by_cases e : x = t + 2 ∧ y % 16 = c ∧ y / 16 < m ∧ ¬ σ.1 (t + 2) y = 0
        · rw [if_pos e, if_pos ⟨e.1, e.2.1, by omega, e.2.2.2⟩]
        · rw [if_neg e, if_neg]
          rintro ⟨z1, z2, z3, z4⟩
          exact e ⟨z1, z2, by have : y ≠ m * 16 + c := fun q => e0 ⟨z1, q⟩; omega, z4⟩
theorem rx_dbt {σ : pST} {T : TbS} {t c : Nat} (hc : c < 16) (h : RXtb σ t T 16) : RXtb (dbtS σ t c 32) t (dbtT T c) 16 := by
  rw [dbt_x hc]
  refine ⟨fun k j hk hj => ?_, fun k j hk hj hs => ?_, fun k hk => h.bf k hk⟩
  · obtain ⟨h1, h2⟩ := h.st k j hk hj
    show (if t + 2 = t + 2 ∧ (k * 16 + j) % 16 = c ∧ (k * 16 + j) / 16 < 32 ∧ ¬ σ.1 (t + 2) (k * 16 + j) = 0 then nI 2 else σ.1 (t + 2) (k * 16 + j)) = nI (if j = c ∧ T.st c k ≠ 0 then 2 else T.st j k) ∧ (if j = c ∧ T.st c k ≠ 0 then 2 else T.st j k) ≤ 2
    by_cases e : j = c ∧ T.st c k ≠ 0
    · have z : ¬ σ.1 (t + 2) (k * 16 + j) = 0 := by
        rw [h1]
        exact nI_ne0 (by rw [e.1]; have := e.2; omega) (by omega)
      rw [if_pos e, if_pos ⟨rfl, by omega, by omega, z⟩]
      exact ⟨rfl, Nat.le_refl _⟩
    · rw [if_neg e, if_neg]
      · exact ⟨h1, h2⟩
      · rintro ⟨_, z2, z3, z4⟩
        have ej : j = c := by omega
        refine e ⟨ej, fun q => z4 ?_⟩
        rw [h1, ej, q]
        rfl
  · have h1 : (if j = c ∧ T.st c k ≠ 0 then 2 else T.st j k) ≠ 0 := hs
    have h2 : T.st j k ≠ 0 := by
      split at h1
      · rename_i e; rw [e.1]; exact e.2
      · exact h1
    show (if t + 3 = t + 2 ∧ _ then _ else σ.1 (t + 3) (k * 16 + j)) = _ ∧ _
    rw [if_neg (by omega)]
    exact h.nv k j hk hj h2
theorem rx_undo {σ : pST} {B : BkS} {sz bd c : Nat} {S : RnS} (h : RX σ B sz bd S) (hc : c < 16) (hn : S.nm c ≤ 100) (hl : S.lr ≤ 16) (hb1 : bd ≤ 100) (hf : S.fe = false) : ∃ ρ, kX6_undo σ [.inr (.inr 8), .inl (nI c)] = some (ρ, none) ∧ RX ρ B sz bd (undoS bd S c) ∧ FrS σ ρ := by
  obtain ⟨hb, hh⟩ := h
  have h1 : RXw (pm_ui (σ.1) 8 4 (nI (S.ud + 1)), σ.2) B sz bd (mkRnS S.T S.am S.bg S.dd S.da S.al S.hw S.aw S.nm S.tk S.tc S.tn S.rr S.lr S.fe S.lk (S.ud + 1) S.gu S.cn S.cc S.co) := uw_ud hh
  have f1 : ∀ x, x ≠ 8 → pm_ui (σ.1) 8 4 (nI (S.ud + 1)) x = σ.1 x := fun x z => ui_o z
  have b1 : RXb (pm_ui (σ.1) 8 4 (nI (S.ud + 1)), σ.2) B S := b_w (S := S) hb fun x z1 z2 z3 z4 => f1 x z3
  obtain ⟨σ1, e1⟩ : ∃ z : pST, z = (pm_ui (σ.1) 8 4 (nI (S.ud + 1)), σ.2) := ⟨_, rfl⟩
  have g1 : ∀ x, x ≠ 8 → σ1.1 x = σ.1 x ∧ σ1.2 x = σ.2 x := fun x z => by rw [e1]; exact ⟨f1 x z, rfl⟩
  have g12 : σ1.1 8 2 = σ.1 8 2 := by rw [e1]; simp [pm_ui_a]
  rw [← e1] at h1 b1
  have hd := ev_X5_doubt σ1 (t := 10) isT10 hc
  have t1 := rx_dbt (t := 10) hc b1.tb
  have f2 : ∀ x, x ≠ 12 → (dbtS σ1 10 c 32).1 x = σ1.1 x ∧ (dbtS σ1 10 c 32).2 x = σ1.2 x := fun x z => by
    rw [dbt_x hc]
    refine ⟨?_, rfl⟩
    funext y
    show (if x = 10 + 2 ∧ _ then _ else _) = _
    rw [if_neg (fun q => z q.1)]
  obtain ⟨ρ, eρ⟩ : ∃ z : pST, z = dbtS σ1 10 c 32 := ⟨_, rfl⟩
  rw [← eρ] at hd t1 f2
  have h2 : RXw ρ B sz bd (mkRnS S.T S.am S.bg S.dd S.da S.al S.hw S.aw S.nm S.tk S.tc S.tn S.rr S.lr S.fe S.lk (S.ud + 1) S.gu S.cn S.cc S.co) := uw_c h1 (f2 8 (by omega)).1 (f2 9 (by omega)).1 fun x z1 z2 => (f2 x (by omega)).1
  rw [e1] at hd
  have ev := ev_X6_undo σ (c := c) (ud := S.ud) (nm := S.nm c) (lr := S.lr) (bd := bd) hc hh.ud hd (h2.nm c hc) (by omega) (h2.lr hf) hl h2.bd hb1
  have h3 : RXw (pm_ui (pm_ui (pm_ui (ρ.1) 149 c (nI (S.nm c + 1))) 147 c (nI 0)) 8 10 (nI (min S.lr (c + 1))), ρ.2) B sz bd (mkRnS S.T S.am S.bg S.dd S.da S.al (fup S.hw c 0) S.aw (fup S.nm c (S.nm c + 1)) S.tk S.tc S.tn S.rr (min S.lr (c + 1)) S.fe S.lk (S.ud + 1) S.gu S.cn S.cc S.co) := uw_lr (uw_hw (uw_nm h2) (by decide))
  have h4 : RXw (pm_ui (pm_ui (pm_ui (pm_ui (ρ.1) 149 c (nI (S.nm c + 1))) 147 c (nI 0)) 8 10 (nI (min S.lr (c + 1)))) 8 6 (if bd ≤ S.nm c + 1 then nI 1 else nI 0), ρ.2) B sz bd (undoS bd S c) := uw_fe (b := decide (bd ≤ S.nm c + 1)) (l := if bd ≤ S.nm c + 1 then S.lr else min S.lr (c + 1)) h3 (by
      by_cases e : bd ≤ S.nm c + 1
      · rw [if_pos e, decide_eq_true e]; rfl
      · rw [if_neg e, decide_eq_false e]; rfl) (fun q => ⟨hf, by
      show (if bd ≤ S.nm c + 1 then S.lr else min S.lr (c + 1)) = min S.lr (c + 1)
      rw [if_neg (of_decide_eq_false q)]⟩)
  have f3 : ∀ x, x ≠ 149 → x ≠ 147 → x ≠ 8 → (pm_ui (pm_ui (pm_ui (pm_ui (ρ.1) 149 c (nI (S.nm c + 1))) 147 c (nI 0)) 8 10 (nI (min S.lr (c + 1)))) 8 6 (if bd ≤ S.nm c + 1 then nI 1 else nI 0)) x = ρ.1 x := fun x z1 z2 z3 => by rw [ui_o z3, ui_o z3, ui_o z2, ui_o z1]
  refine ⟨_, ev, ⟨⟨?_, ?_, fun d hd => ?_⟩, h4⟩, ⟨fun x hx => ⟨?_, ?_⟩, ?_⟩⟩
  · exact bk_c b1.bk fun x z1 z2 => ⟨(f3 x (by omega) (by omega) (by omega)).trans (f2 x (by omega)).1, (f2 x (by omega)).2⟩
  · exact tb_c t1 fun x z1 z2 => ⟨f3 x (by omega) (by omega) (by omega), rfl⟩
  · exact a_s (a_c (b1.a d hd) fun x z1 z2 => ⟨(f3 x (by omega) (by omega) (by omega)).trans (f2 x (by omega)).1, (f2 x (by omega)).2⟩) rfl rfl rfl rfl
  · exact (f3 x (by omega) (by omega) (by omega)).trans ((f2 x (by omega)).1.trans (g1 x (by omega)).1)
  · exact (f2 x (by omega)).2.trans (g1 x (by omega)).2
  · show (pm_ui (pm_ui (pm_ui (pm_ui (ρ.1) 149 c (nI (S.nm c + 1))) 147 c (nI 0)) 8 10 (nI (min S.lr (c + 1)))) 8 6 (if bd ≤ S.nm c + 1 then nI 1 else nI 0)) 8 2 = _
    rw [pm_ui_a, if_neg (by omega), pm_ui_a, if_neg (by omega), ui_o (by omega), ui_o (by omega), (f2 8 (by omega)).1, g12]
