/-! ===== a turn of the reference is a turn of the plain machine ===== -/
abbrev FrB (σ ρ : pST) (c : Nat) : Prop := ∀ x y, ¬ inC c x y → ¬ (x = 19 ∧ y = c) → ρ.1 x y = σ.1 x y ∧ ρ.2 x y = σ.2 x y
theorem rm_oth2 {σ ρ : pST} {c d : Nat} {A : AtS} (hf : FrB σ ρ c) (hd : d ≠ c) (hk : A.kn ≤ 12) (he : A.en ≤ 12) (h : RMat σ d A) : RMat ρ d A := by
  obtain ⟨k1, k2, k3, k4, k5, k6, k7, k8, k9⟩ := h
  refine ⟨?_, ?_, ?_, ?_, ?_, ?_, ?_, ?_, ?_⟩
  · rw [(hf 7 d (by omega) (by omega)).1]; exact k1
  · rw [(hf 9 d (by omega) (by omega)).1]; exact k2
  · rw [(hf 12 d (by omega) (by omega)).1]; exact k3
  · rw [(hf 17 d (by omega) (by omega)).1]; exact k4
  · intro r hr; rw [(hf 8 (4 * d + r) (by omega) (by omega)).2]; exact k5 r hr
  · intro k hk; rw [(hf 10 (32 * d + k) (by omega) (by omega)).1]; exact k6 k hk
  · intro k hk; rw [(hf 11 (32 * d + k) (by omega) (by omega)).2]; exact k7 k hk
  · intro i hi; rw [(hf 18 (12 * d + i) (by omega) (by omega)).2]; exact k8 i hi
  · intro i hi; rw [(hf 13 (32 * d + i) (by omega) (by omega)).1, (hf 14 (32 * d + i) (by omega) (by omega)).1, (hf 15 (32 * d + i) (by omega) (by omega)).1, (hf 16 (32 * d + i) (by omega) (by omega)).2]; exact k9 i hi
/-- cells that a call's own acts leave -/
theorem frb_o {σ ρ : pST} {c x : Nat} (hf : FrB σ ρ c) (h : (1 ≤ x ∧ x ≤ 6) ∨ 21 ≤ x) : ρ.1 x = σ.1 x ∧ ρ.2 x = σ.2 x := by
  refine ⟨?_, ?_⟩
  · funext y; exact (hf x y (by omega) (by omega)).1
  · funext y; exact (hf x y (by omega) (by omega)).2
theorem frb_0 {σ ρ : pST} {c y : Nat} (hf : FrB σ ρ c) (h : y ≠ 22) (h1 : y ≠ 27) (h2 : y ≠ 28) (h3 : y ≠ 29) (h4 : y ≠ 30) : ρ.1 0 y = σ.1 0 y := (hf 0 y (by omega) (by omega)).1
theorem slW_ne {y : Nat} (h : slW y) (h22 : y ≠ 22) : y ≠ 27 ∧ y ≠ 28 ∧ y ≠ 29 ∧ y ≠ 30 := by omega
theorem frb_19 {σ ρ : pST} {c d : Nat} (hf : FrB σ ρ c) (h : d ≠ c) : ρ.1 19 d = σ.1 19 d ∧ ρ.1 20 d = σ.1 20 d := ⟨(hf 19 d (by omega) (by omega)).1, (hf 20 d (by omega) (by omega)).1⟩
/-- a change of one call's own cells: the block, the table and the others stay -/
theorem mb_call {σ ρ : pST} {B : BkS} {c : Nat} {S S' : RnS} (hf : FrB σ ρ c) (h : RMb σ B S) (hok : ∀ d, d < 16 → 1 ≤ S.bg d → AtOK d (S.am d)) (hT : S'.T = S.T) (hc : RMa ρ S' c) (h1 : ∀ d, d ≠ c → S'.bg d = S.bg d ∧ S'.am d = S.am d ∧ S'.dd d = S.dd d) : RMb ρ B S' := by
  obtain ⟨b1, b2, b3, b4⟩ := h
  refine ⟨?_, ?_, ?_, fun d hd => ?_⟩
  · exact mbk_c b1 (frb_0 hf (by decide) (by decide) (by decide) (by decide) (by decide)) fun x z1 z2 => frb_o hf (.inl ⟨Nat.le_trans (by decide) z1, z2⟩)
  · rw [hT]
    exact mtb_c b2 (frb_o hf (.inl ⟨by decide, by decide⟩)).2 fun x z1 z2 => frb_o hf (.inr z1)
  · rw [(frb_o hf (.inr (by decide))).1]; exact b3
  · by_cases e : d = c
    · rw [e]; exact hc
    · obtain ⟨g1, g2, g3⟩ := h1 d e
      have q := b4 d hd
      obtain ⟨f1, f2⟩ := frb_19 hf e
      refine ⟨by rw [f1, g1]; exact q.bg, fun z => ?_⟩
      rw [g1] at z
      have ok := hok d hd z
      rw [g2, g3, f2]
      exact ⟨rm_oth2 hf e ok.k12 ok.e12 (q.am z).1, (q.am z).2⟩
theorem rm_toRun {σ : pST} {B : BkS} {bd w c : Nat} {S : RnS} (h : RM σ B bd S) (hok : ∀ d, d < 16 → 1 ≤ S.bg d → AtOK d (S.am d)) (hw : w < 4) (hc : c < 16) : ∃ ρ, kX8_toRun σ [.inr (.inr 0), .inl (nI w), .inl (nI c)] = some (ρ, none) ∧ RM ρ B bd (toRunS S w c) ∧ FrR σ ρ := by
  obtain ⟨hb, hh⟩ := h
  have h1 : RMw (pm_ui (pm_ui (pm_ui (σ.1) 25 c (nI 1)) 28 w (nI 1)) 29 w (nI c), σ.2) bd (toRunS S w c) := um_run (um_hw hh (by decide))
  have fr : ∀ x, x ≠ 25 → x ≠ 28 → x ≠ 29 → (pm_ui (pm_ui (pm_ui (σ.1) 25 c (nI 1)) 28 w (nI 1)) 29 w (nI c)) x = σ.1 x := fun x z1 z2 z3 => by rw [ui_o z3, ui_o z2, ui_o z1]
  have b1 : RMb (pm_ui (pm_ui (pm_ui (σ.1) 25 c (nI 1)) 28 w (nI 1)) 29 w (nI c), σ.2) B S := mb_w (σ := σ) hb (by rw [fr 0 (by decide) (by decide) (by decide)]) fun x z1 z2 => fr x (le_ne z2 (by decide)) (le_ne z2 (by decide)) (le_ne z2 (by decide))
  have f0 : FrR σ (pm_ui (pm_ui (pm_ui (σ.1) 25 c (nI 1)) 28 w (nI 1)) 29 w (nI c), σ.2) := ⟨congrFun (fr 0 (by decide) (by decide) (by decide)) 39, congrFun (fr 0 (by decide) (by decide) (by decide)) 40⟩
  obtain ⟨ρ, e, r1, r2, r3, r4, r5⟩ := rm_begin (σ := (pm_ui (pm_ui (pm_ui (σ.1) 25 c (nI 1)) 28 w (nI 1)) 29 w (nI c), σ.2)) (c := c) hc
  refine ⟨ρ, ev_X8_toRun σ hw hc e, ⟨?_, ?_⟩, ?_⟩
  · refine mb_call (S' := toRunS S w c) r2 b1 hok rfl ⟨?_, fun _ => ?_⟩ fun d hd => ⟨fup_n hd, fup_n hd, fup_n hd⟩
    · rw [r3, (b1.a c hc).bg, nI_1]
      show _ = nI (fup S.bg c (S.bg c + 1) c)
      rw [fup_s]
    · show RMat ρ c (fup S.am c at0 c) ∧ ρ.1 20 c = nI (fup S.dd c 0 c)
      rw [fup_s, fup_s, r4]
      exact ⟨r1, rfl⟩
  · exact um_c h1 (fun y z1 z2 => by
      obtain ⟨n1, n2, n3, n4⟩ := slW_ne z1 z2
      exact frb_0 r2 z2 n1 n2 n3 n4) (by rw [r5]; exact h1.al) (fun x z1 z2 => (frb_o r2 (.inr (Nat.le_trans (by decide) z1))).1) rfl rfl rfl rfl rfl rfl rfl rfl rfl rfl rfl rfl rfl rfl rfl
  · exact f0.trans ⟨frb_0 r2 (by decide) (by decide) (by decide) (by decide) (by decide), frb_0 r2 (by decide) (by decide) (by decide) (by decide) (by decide)⟩
theorem rm_toLook {σ : pST} {B : BkS} {bd w c : Nat} {S : RnS} (h : RM σ B bd S) (hw : w < 4) (hc : c < 16) : ∃ ρ, kX8_toLook σ [.inr (.inr 0), .inl (nI w), .inl (nI c)] = some (ρ, none) ∧ RM ρ B bd (toLookS S w c) ∧ FrR σ ρ := by
  obtain ⟨hb, hh⟩ := h
  have fr : ∀ x, x ≠ 28 → x ≠ 29 → x ≠ 30 → (pm_ui (pm_ui (pm_ui (σ.1) 28 w (nI 2)) 29 w (nI c)) 30 w (nI (S.nm c))) x = σ.1 x := fun x z1 z2 z3 => by rw [ui_o z3, ui_o z2, ui_o z1]
  have e := ev_X8_toLook σ hw hc
  rw [hh.nm c hc] at e
  have e0 := fr 0 (by decide) (by decide) (by decide)
  exact ⟨_, e, ⟨mb_s (S := S) (mb_w (σ := σ) hb (by rw [e0]) fun x z1 z2 => fr x (le_ne z2 (by decide)) (le_ne z2 (by decide)) (le_ne z2 (by decide))) rfl rfl rfl rfl, um_look hh rfl⟩, ⟨congrFun e0 39, congrFun e0 40⟩⟩
theorem rm_note {σ : pST} {B : BkS} {bd c : Nat} {o : Option Nat} {S : RnS} (h : RM σ B bd S) (hcn : S.cn < 2 ^ 30) : ∃ ρ, kX8_conflict0 σ [.inr (.inr 0), .inl (nI c), .inl (oI o)] = some (ρ, none) ∧ RM ρ B bd (noteS S c o) ∧ FrR σ ρ ∧ ρ.2 = σ.2 := by
  have fr : ∀ x y, ¬ (x = 0 ∧ y = 47) → x ≠ 32 → x ≠ 33 → (pm_ui (if S.cn < 200 then pm_ui (pm_ui (σ.1) 32 S.cn (nI c)) 33 S.cn (oI o) else σ.1) 0 47 (nI (S.cn + 1))) x y = σ.1 x y := fun x y z1 z2 z3 => by
    rw [pm_ui_a, if_neg z1]
    split
    · rw [ui_o z3, ui_o z2]
    · rfl
  refine ⟨_, ev_X8_conflict0 σ h.2.cn hcn (nI c) (oI o), ⟨mb_s (S := S) (mb_w (σ := σ) h.1 (fr 0 1 (by decide) (by decide) (by decide)) fun x z1 z2 => ?_) rfl rfl rfl rfl, um_note h.2⟩, ⟨fr 0 39 (by decide) (by decide) (by decide), fr 0 40 (by decide) (by decide) (by decide)⟩, rfl⟩
  funext y
  exact fr x y (fun z => absurd z.1 (ge_ne z1 (by decide))) (le_ne z2 (by decide)) (le_ne z2 (by decide))
theorem wrM_iff {σ : pST} {c k : Nat} {A : AtS} (h : RMat σ c A) (hk : k < 32) : wrM σ c k ↔ wrA A k = true := by
  unfold wrM wrA
  rw [h.wb k hk, h.fl]
  cases A.wb k <;> cases A.fl <;> decide
theorem ep_21r {σ : pST} {c m y : Nat} {num : Int32} : epI σ c num m 21 y = if 32 * c ≤ y ∧ y < 32 * c + m then (if wrM σ c (y - 32 * c) then nI 1 else nI 0) else σ.1 21 y := by
  unfold epI
  by_cases q : 32 * c ≤ y ∧ y < 32 * c + m
  · rw [if_pos ⟨rfl, q⟩, if_pos q]
  · rw [if_neg (fun z => q z.2), if_neg (fun z => absurd z.1 (by decide)), if_neg (fun z => absurd z.1 (by decide)), if_neg q]
theorem ep_22r {σ : pST} {c m y : Nat} {num : Int32} : epI σ c num m 22 y = if 32 * c ≤ y ∧ y < 32 * c + m then nI 0 else σ.1 22 y := by
  unfold epI
  rw [if_neg (fun z => absurd z.1 (by decide))]
  by_cases q : 32 * c ≤ y ∧ y < 32 * c + m
  · rw [if_pos ⟨rfl, q⟩, if_pos q]
  · rw [if_neg (fun z => q z.2), if_neg (fun z => absurd z.1 (by decide)), if_neg q]
theorem ep_24r {σ : pST} {c m y : Nat} {num : Int32} : epI σ c num m 24 y = if 32 * c ≤ y ∧ y < 32 * c + m ∧ wrM σ c (y - 32 * c) then num else σ.1 24 y := by
  unfold epI
  rw [if_neg (fun z => absurd z.1 (by decide)), if_neg (fun z => absurd z.1 (by decide))]
  by_cases q : 32 * c ≤ y ∧ y < 32 * c + m ∧ wrM σ c (y - 32 * c)
  · rw [if_pos ⟨rfl, q⟩, if_pos q]
  · rw [if_neg (fun z => q z.2), if_neg q]
theorem ep_23r {σ : pST} {c m y : Nat} : epJ σ c m 23 y = if 32 * c ≤ y ∧ y < 32 * c + m ∧ wrM σ c (y - 32 * c) then σ.2 11 y else σ.2 23 y := by
  unfold epJ
  by_cases q : 32 * c ≤ y ∧ y < 32 * c + m ∧ wrM σ c (y - 32 * c)
  · rw [if_pos ⟨rfl, q⟩, if_pos q]
  · rw [if_neg (fun z => q z.2), if_neg q]
theorem rm_pubg {σ ρ : pST} {T : TbS} {A : AtS} {c num m : Nat} (ha : RMat σ c A) (h : RMtb σ T m) (hm : c < m)
    (r1 : ∀ y, ρ.1 21 y = if 32 * c ≤ y ∧ y < 32 * c + 32 then (if wrM σ c (y - 32 * c) then nI 1 else nI 0) else σ.1 21 y) (r2 : ∀ y, ρ.1 22 y = if 32 * c ≤ y ∧ y < 32 * c + 32 then nI 0 else σ.1 22 y) (r3 : ∀ y, (32 * c ≤ y ∧ y < 32 * c + 32 ∧ wrM σ c (y - 32 * c) → ρ.1 24 y = nI num) ∧ (¬ (32 * c ≤ y ∧ y < 32 * c + 32) → ρ.1 24 y = σ.1 24 y)) (r4 : ∀ y, (32 * c ≤ y ∧ y < 32 * c + 32 ∧ wrM σ c (y - 32 * c) → ρ.2 23 y = σ.2 11 y) ∧ (¬ (32 * c ≤ y ∧ y < 32 * c + 32) → ρ.2 23 y = σ.2 23 y)) (r5 : ρ.2 1 = σ.2 1) : RMtb ρ (pubT T c A num) m := by
  refine ⟨fun k j hk hj => ?_, fun k j hk hj hs => ?_, fun k hk => by rw [r5]; exact h.bf k hk⟩
  · rw [r1, r2]
    show _ = hI (if j = c then (cond (wrA A k) 1 0) else T.st j k) ∧ _ = pI (if j = c then (cond (wrA A k) 1 0) else T.st j k) ∧ (if j = c then (cond (wrA A k) 1 0) else T.st j k) ≤ 2
    by_cases e : j = c
    · subst e
      have q : 32 * j ≤ 32 * j + k ∧ 32 * j + k < 32 * j + 32 := by omega
      rw [if_pos q, if_pos q, if_pos rfl, show 32 * j + k - 32 * j = k by omega]
      by_cases w : wrA A k = true
      · rw [if_pos ((wrM_iff ha hk).mpr w), w]; exact ⟨rfl, rfl, by decide⟩
      · rw [if_neg (fun z => w ((wrM_iff ha hk).mp z)), Bool.eq_false_iff.mpr w]; exact ⟨rfl, rfl, by decide⟩
    · have q : ¬ (32 * c ≤ 32 * j + k ∧ 32 * j + k < 32 * c + 32) := by omega
      rw [if_neg q, if_neg q, if_neg e]
      exact h.st k j hk hj
  · have hs' : (if j = c then (cond (wrA A k) 1 0) else T.st j k) ≠ 0 := hs
    show _ = nI (if j = c ∧ wrA A k = true then num else T.nm j k) ∧ _ = (if j = c ∧ wrA A k = true then A.wv k else T.vl j k)
    by_cases e : j = c
    · subst e
      rw [if_pos rfl] at hs'
      have w : wrA A k = true := by
        cases w : wrA A k with
        | true => rfl
        | false => rw [w] at hs'; exact absurd rfl hs'
      have w3 : 32 * j ≤ 32 * j + k ∧ 32 * j + k < 32 * j + 32 ∧ wrM σ j (32 * j + k - 32 * j) := ⟨by omega, by omega, by rw [show 32 * j + k - 32 * j = k by omega]; exact (wrM_iff ha hk).mpr w⟩
      rw [(r3 _).1 w3, (r4 _).1 w3, if_pos ⟨rfl, w⟩, if_pos ⟨rfl, w⟩]
      refine ⟨rfl, ha.wv k hk ?_⟩
      unfold wrA at w
      revert w
      cases A.wb k <;> simp
    · rw [if_neg e] at hs'
      have w3 : ¬ (32 * c ≤ 32 * j + k ∧ 32 * j + k < 32 * c + 32) := by omega
      have w5 : ¬ (j = c ∧ wrA A k = true) := fun z => e z.1
      rw [(r3 _).2 w3, (r4 _).2 w3, if_neg w5, if_neg w5]
      exact h.nv k j hk hj hs'
theorem rm_pub {σ : pST} {T : TbS} {A : AtS} {c num : Nat} (hc : c < 16) (ha : RMat σ c A) (h : RMtb σ T 16) : RMtb (epI σ c (nI num) 32, epJ σ c 32) (pubT T c A num) 16 :=
  rm_pubg ha h hc (fun y => ep_21r) (fun y => ep_22r) (fun y => ⟨fun q => ep_24r.trans (if_pos q), fun q => ep_24r.trans (if_neg fun z => q ⟨z.1, z.2.1⟩)⟩) (fun y => ⟨fun q => ep_23r.trans (if_pos q), fun q => ep_23r.trans (if_neg fun z => q ⟨z.1, z.2.1⟩)⟩) (by funext y; exact epJ_o (σ := σ) (c := c) (m := 32) (x := 1) (by decide))
theorem frM_iff {σ : pST} {T : TbS} {A : AtS} {c : Nat} (hc : c < 16) (ha : RMat σ c A) (h : RMtb σ T 16) : ∀ m, m ≤ 32 → (frM σ c m = 0 ↔ freshA T c A m = false)
  | 0, _ => ⟨fun _ => rfl, fun _ => rfl⟩
  | m + 1, hm => by
    have ih := frM_iff hc ha h m (by omega)
    obtain ⟨h1, _, h2⟩ := h.st m c (by omega) hc
    have hz : σ.1 21 (32 * c + m) = 0 ↔ T.st c m = 0 := by
      rw [h1]
      cases T.st c m with
      | zero => exact ⟨fun _ => rfl, fun _ => rfl⟩
      | succ q => exact ⟨fun z => absurd z (by show ¬ (1 : Int32) = 0; decide), fun z => by cases z⟩
    rw [frM_s]
    unfold freshA
    by_cases e : frM σ c m = 0 ∧ wrM σ c m ∧ σ.1 21 (32 * c + m) = 0
    · rw [if_pos e]
      have w := (wrM_iff ha (show m < 32 by omega)).mp e.2.1
      have z := hz.mp e.2.2
      rw [w, z]
      constructor
      · intro q; cases q
      · intro q
        rw [show ((0 : Nat) == 0) = true from rfl, Bool.and_true, Bool.or_true] at q
        cases q
    · rw [if_neg e, ih]
      cases hf : freshA T c A m with
      | true => simp
      | false =>
        simp only [Bool.false_or, true_iff]
        have hf0 := ih.mpr hf
        cases w : wrA A m with
        | false => rfl
        | true =>
          simp only [Bool.true_and, beq_eq_false_iff_ne]
          intro z
          exact e ⟨hf0, (wrM_iff ha (by omega)).mpr w, hz.mpr z⟩
theorem um_T {σ : pST} {bd : Nat} {S : RnS} {T : TbS} (h : RMw σ bd S) : RMw σ bd (mkRnS (T) S.am S.bg S.dd S.da S.al S.hw S.aw S.nm S.tk S.tc S.tn S.rr S.lr S.fe S.lk S.ud S.gu S.cn S.cc S.co) := h
theorem rm_ends1 {σ : pST} {B : BkS} {sz bd w c : Nat} {S : RnS} (hB : BkOK B) (h : RM σ B bd S) (hS : SOK B sz S) (hc : c < B.n) (hb : 1 ≤ S.bg c) :
    RM (wmI (pm_ui (epI (pm_ui (σ.1) 28 w (nI 0), σ.2) c (nI (S.nm c)) 32) 25 c (nI 2)) (mkRnS (pubT S.T c (S.am c) (S.nm c)) S.am S.bg S.dd S.da S.al (fup S.hw c 2) S.aw S.nm (fup S.tk w 0) S.tc S.tn S.rr S.lr S.fe S.lk S.ud S.gu S.cn S.cc S.co) c B.n 0, epJ (pm_ui (σ.1) 28 w (nI 0), σ.2) c 32) B bd (end1S S w c B.n) ∧ FrR σ (wmI (pm_ui (epI (pm_ui (σ.1) 28 w (nI 0), σ.2) c (nI (S.nm c)) 32) 25 c (nI 2)) (mkRnS (pubT S.T c (S.am c) (S.nm c)) S.am S.bg S.dd S.da S.al (fup S.hw c 2) S.aw S.nm (fup S.tk w 0) S.tc S.tn S.rr S.lr S.fe S.lk S.ud S.gu S.cn S.cc S.co) c B.n 0, epJ (pm_ui (σ.1) 28 w (nI 0), σ.2) c 32) ∧ (frM (pm_ui (σ.1) 28 w (nI 0), σ.2) c 32 = 0 ↔ freshA S.T c (S.am c) 32 = false) ∧ (pm_ui (σ.1) 28 w (nI 0)) 26 c = nI (S.nm c) ∧ (pm_ui (σ.1) 28 w (nI 0)) 0 1 = nI B.n ∧ (pm_ui (σ.1) 28 w (nI 0)) 0 37 = nI S.rr ∧ (pm_ui (σ.1) 28 w (nI 0)) 0 38 = nI S.lr ∧ (∀ i, i < B.n → (if i = c then nI 2 else (pm_ui (σ.1) 28 w (nI 0)) 25 i) = nI (fup S.hw c 2 i) ∧ fup S.hw c 2 i ≤ 3 ∧ (fup S.hw c 2 i = 3 → (pm_ui (σ.1) 28 w (nI 0)) 27 i = nI (S.aw i) ∧ S.aw i < 16)) := by
  have hc16 : c < 16 := Nat.lt_of_lt_of_le hc hB.n
  have hn := hB.n
  have hhw := hS.hw
  have haw := hS.aw
  have h1 : RMw (pm_ui (σ.1) 28 w (nI 0), σ.2) bd (mkRnS S.T S.am S.bg S.dd S.da S.al S.hw S.aw S.nm (fup S.tk w 0) S.tc S.tn S.rr S.lr S.fe S.lk S.ud S.gu S.cn S.cc S.co) := um_tk0 h.2
  have e0 : (pm_ui (σ.1) 28 w (nI 0)) 0 = σ.1 0 := ui_o (by decide)
  have b1 : RMb (pm_ui (σ.1) 28 w (nI 0), σ.2) B S := mb_w (σ := σ) h.1 (by rw [e0]) fun x z1 z2 => ui_o (le_ne z2 (by decide))
  have f1 : FrR σ (pm_ui (σ.1) 28 w (nI 0), σ.2) := ⟨congrFun e0 39, congrFun e0 40⟩
  clear h hS hB e0
  have v1 : (pm_ui (σ.1) 28 w (nI 0)) 26 c = nI (S.nm c) := h1.nm c hc16
  have v2 : (pm_ui (σ.1) 28 w (nI 0)) 0 1 = nI B.n := b1.bk.n
  have v3 : (pm_ui (σ.1) 28 w (nI 0)) 0 37 = nI S.rr := h1.rr
  have v4 : (pm_ui (σ.1) 28 w (nI 0)) 0 38 = nI S.lr := h1.lr
  have v5 : ∀ i, i < 16 → (pm_ui (σ.1) 28 w (nI 0)) 25 i = nI (S.hw i) := h1.hw
  have v6 : ∀ i, i < 16 → S.hw i = 3 → (pm_ui (σ.1) 28 w (nI 0)) 27 i = nI (S.aw i) := h1.aw
  have e1 : ((pm_ui (σ.1) 28 w (nI 0), σ.2) : pST).1 = pm_ui (σ.1) 28 w (nI 0) := rfl
  have hA := (b1.a c hc16).am hb
  have t2 := rm_pub (num := S.nm c) hc16 hA.1 b1.tb
  have hfr := frM_iff hc16 hA.1 b1.tb 32 (Nat.le_refl _)
  refine ⟨?_, ?_, hfr, v1, v2, v3, v4, fun i hi => ⟨?_, ?_, fun q => ?_⟩⟩
  · clear v1 v2 v3 v4 v5 v6 hfr e1
    generalize (pm_ui (σ.1) 28 w (nI 0), σ.2) = σ1 at h1 b1 f1 hA t2 ⊢
    have fe : ∀ x, x ≠ 21 → x ≠ 22 → x ≠ 24 → epI σ1 c (nI (S.nm c)) 32 x = σ1.1 x := fun x z1 z2 z3 => by funext y; exact ep_o z1 z2 z3
    have fj : ∀ x, x ≠ 23 → epJ σ1 c 32 x = σ1.2 x := fun x z => by funext y; exact epJ_o z
    have h2 : RMw (epI σ1 c (nI (S.nm c)) 32, epJ σ1 c 32) bd (mkRnS S.T S.am S.bg S.dd S.da S.al S.hw S.aw S.nm (fup S.tk w 0) S.tc S.tn S.rr S.lr S.fe S.lk S.ud S.gu S.cn S.cc S.co) := um_c h1 (fun y _ _ => congrFun (fe 0 (by decide) (by decide) (by decide)) y) ((congrFun (fe 0 (by decide) (by decide) (by decide)) 22).trans h1.al) (fun x z1 z2 => fe x (ge_ne z1 (by decide)) (ge_ne z1 (by decide)) (ge_ne z1 (by decide))) rfl rfl rfl rfl rfl rfl rfl rfl rfl rfl rfl rfl rfl rfl rfl
    have h3 : RMw (pm_ui (epI σ1 c (nI (S.nm c)) 32) 25 c (nI 2), epJ σ1 c 32) bd (mkRnS (pubT S.T c (S.am c) (S.nm c)) S.am S.bg S.dd S.da S.al (fup S.hw c 2) S.aw S.nm (fup S.tk w 0) S.tc S.tn S.rr S.lr S.fe S.lk S.ud S.gu S.cn S.cc S.co) := um_hw h2 (by decide)
    have h4 := um_wake h3 (c := c) (n := B.n)
    refine ⟨?_, h4⟩
    have fw : ∀ x, x ≠ 0 → x ≠ 25 → wmI (pm_ui (epI σ1 c (nI (S.nm c)) 32) 25 c (nI 2)) (mkRnS (pubT S.T c (S.am c) (S.nm c)) S.am S.bg S.dd S.da S.al (fup S.hw c 2) S.aw S.nm (fup S.tk w 0) S.tc S.tn S.rr S.lr S.fe S.lk S.ud S.gu S.cn S.cc S.co) c B.n 0 x = epI σ1 c (nI (S.nm c)) 32 x := fun x z1 z2 => by
      funext y
      unfold wmI
      rw [if_neg (fun q => z2 q.1), if_neg (fun q => z1 q.1), ui_o z2]
    have fw1 : wmI (pm_ui (epI σ1 c (nI (S.nm c)) 32) 25 c (nI 2)) (mkRnS (pubT S.T c (S.am c) (S.nm c)) S.am S.bg S.dd S.da S.al (fup S.hw c 2) S.aw S.nm (fup S.tk w 0) S.tc S.tn S.rr S.lr S.fe S.lk S.ud S.gu S.cn S.cc S.co) c B.n 0 0 1 = σ1.1 0 1 := by
      unfold wmI
      rw [if_neg (fun q => absurd q.1 (by decide)), if_neg (fun q => absurd q.2 (by decide)), ui_o (by decide), fe 0 (by decide) (by decide) (by decide)]
    generalize wmI (pm_ui (epI σ1 c (nI (S.nm c)) 32) 25 c (nI 2)) (mkRnS (pubT S.T c (S.am c) (S.nm c)) S.am S.bg S.dd S.da S.al (fup S.hw c 2) S.aw S.nm (fup S.tk w 0) S.tc S.tn S.rr S.lr S.fe S.lk S.ud S.gu S.cn S.cc S.co) c B.n 0 = I at h4 fw fw1 ⊢
    clear h1 h2 h3 h4
    refine ⟨?_, ?_, ?_, fun d hd => ?_⟩
    · exact mbk_c b1.bk fw1 fun x z1 z2 => ⟨(fw x (ge_ne z1 (by decide)) (le_ne z2 (by decide))).trans (fe x (le_ne z2 (by decide)) (le_ne z2 (by decide)) (le_ne z2 (by decide))), fj x (le_ne z2 (by decide))⟩
    · exact mtb_c t2 rfl fun x z1 z2 => ⟨fw x (ge_ne z1 (by decide)) (le_ne z2 (by decide)), rfl⟩
    · intro y
      show I 22 y = 0 ∨ I 22 y = 1
      rw [fw 22 (by decide) (by decide), ep_22r]
      split
      · exact .inl rfl
      · exact b1.z y
    · exact ma_s (ma_c (b1.a d hd) fun x z1 z2 => ⟨(fw x (ge_ne z1 (by decide)) (le_ne z2 (by decide))).trans (fe x (le_ne z2 (by decide)) (le_ne z2 (by decide)) (le_ne z2 (by decide))), fj x (le_ne z2 (by decide))⟩) rfl rfl rfl
  · have q : ∀ y, y ≠ 37 → wmI (pm_ui (epI (pm_ui (σ.1) 28 w (nI 0), σ.2) c (nI (S.nm c)) 32) 25 c (nI 2)) (mkRnS (pubT S.T c (S.am c) (S.nm c)) S.am S.bg S.dd S.da S.al (fup S.hw c 2) S.aw S.nm (fup S.tk w 0) S.tc S.tn S.rr S.lr S.fe S.lk S.ud S.gu S.cn S.cc S.co) c B.n 0 0 y = (pm_ui (σ.1) 28 w (nI 0)) 0 y := fun y hy => by
      unfold wmI
      rw [if_neg (fun q => absurd q.1 (by decide)), if_neg (fun q => hy q.2), ui_o (by decide), ep_o (by decide) (by decide) (by decide)]
    exact ⟨(q 39 (by decide)).trans f1.1, (q 40 (by decide)).trans f1.2⟩
  · by_cases e : i = c
    · subst e; rw [if_pos rfl, fup_s]
    · rw [if_neg e, fup_n e]; exact v5 i (Nat.lt_of_lt_of_le hi hn)
  · by_cases e : i = c
    · subst e; rw [fup_s]; decide
    · rw [fup_n e]; exact hhw i
  · by_cases e : i = c
    · subst e; rw [fup_s] at q; cases q
    · rw [fup_n e] at q; exact ⟨v6 i (Nat.lt_of_lt_of_le hi hn) q, haw i q⟩
theorem mb_lr {σ : pST} {B : BkS} {S : RnS} {x : Nat} (h : RMb σ B S) : RMb σ B (mkRnS S.T S.am S.bg S.dd S.da S.al S.hw S.aw S.nm S.tk S.tc S.tn S.rr (x) S.fe S.lk S.ud S.gu S.cn S.cc S.co) := h
theorem rm_ends {σ : pST} {B : BkS} {sz bd w c : Nat} {S : RnS} (hB : BkOK B) (h : RM σ B bd S) (hS : SOK B sz S) (hw : w < 4) (hc : c < B.n) (hb : 1 ≤ S.bg c) : ∃ ρ, kX8_ends (pm_ui (σ.1) 28 w (nI 0), σ.2) [.inr (.inr 0), .inl (nI w), .inl (nI c)] = some (ρ, none) ∧ RM ρ B bd (endS B S w c) ∧ FrR σ ρ := by
  have hn := hB.n
  have hc16 : c < 16 := Nat.lt_of_lt_of_le hc hn
  have hl : S.lr ≤ 16 := Nat.le_trans hS.lr hn
  have hr : S.rr ≤ 16 := Nat.le_trans hS.rr hn
  obtain ⟨r, fr, hfr, v1, v2, v3, v4, v5⟩ := rm_ends1 (w := w) hB h hS hc hb
  have en := ev_X8_ends_n (pm_ui (σ.1) 28 w (nI 0), σ.2) (S := (mkRnS (pubT S.T c (S.am c) (S.nm c)) S.am S.bg S.dd S.da S.al (fup S.hw c 2) S.aw S.nm (fup S.tk w 0) S.tc S.tn S.rr S.lr S.fe S.lk S.ud S.gu S.cn S.cc S.co)) hw hc16 v1 v2 hn v3 hr v4 hl v5
  have ef := ev_X8_ends_f (pm_ui (σ.1) 28 w (nI 0), σ.2) (S := (mkRnS (pubT S.T c (S.am c) (S.nm c)) S.am S.bg S.dd S.da S.al (fup S.hw c 2) S.aw S.nm (fup S.tk w 0) S.tc S.tn S.rr S.lr S.fe S.lk S.ud S.gu S.cn S.cc S.co)) hw hc16 v1 v2 hn v3 hr v4 hl v5
  have el := fun ρ => ev_X8_ends_l (pm_ui (σ.1) 28 w (nI 0), σ.2) (S := (mkRnS (pubT S.T c (S.am c) (S.nm c)) S.am S.bg S.dd S.da S.al (fup S.hw c 2) S.aw S.nm (fup S.tk w 0) S.tc S.tn S.rr S.lr S.fe S.lk S.ud S.gu S.cn S.cc S.co)) (ρ := ρ) hw hc16 v1 v2 hn v3 hr v4 hl v5
  unfold endS
  generalize end1S S w c B.n = E at r ⊢
  generalize wmI (pm_ui (epI (pm_ui (σ.1) 28 w (nI 0), σ.2) c (nI (S.nm c)) 32) 25 c (nI 2)) (mkRnS (pubT S.T c (S.am c) (S.nm c)) S.am S.bg S.dd S.da S.al (fup S.hw c 2) S.aw S.nm (fup S.tk w 0) S.tc S.tn S.rr S.lr S.fe S.lk S.ud S.gu S.cn S.cc S.co) c B.n 0 = I at r fr en ef el
  generalize epJ (pm_ui (σ.1) 28 w (nI 0), σ.2) c 32 = J at r fr en ef el
  by_cases h1 : c < S.lr
  · rw [if_pos h1]
    by_cases h2 : freshA S.T c (S.am c) 32 = true
    · rw [if_pos h2]
      have e8 : ∀ y, y ≠ 38 → pm_ui I 0 38 (nI c) 0 y = I 0 y := fun y hy => by rw [pm_ui_a, if_neg (fun z => hy z.2)]
      exact ⟨_, ef h1 (fun z => by rw [hfr.mp z] at h2; cases h2), ⟨mb_lr (mb_c (σ := (I, J)) (S := E) r.1 (e8 1 (by decide)) fun x z1 z2 => ⟨ui_o (ge_ne z1 (by decide)), rfl⟩), um_lr r.2⟩, fr.trans ⟨e8 39 (by decide), e8 40 (by decide)⟩⟩
    · rw [if_neg h2]
      obtain ⟨σc, e3, r3, fr3⟩ := rm_toLook (w := w) (c := c) r hw hc16
      exact ⟨σc, el σc h1 (hfr.mpr (Bool.eq_false_iff.mpr h2)) e3, r3, fr.trans fr3⟩
  · rw [if_neg h1]
    exact ⟨_, en (Nat.le_of_not_lt h1), r, fr⟩
