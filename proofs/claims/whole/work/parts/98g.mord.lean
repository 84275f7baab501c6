/-! ===== the reference in order ===== -/
theorem fup_u {α : Type} {f : Nat → α} {c : Nat} {x y : α} : fup (fup f c x) c y = fup f c y := by
  funext d
  by_cases e : d = c
  · subst e; rw [fup_s, fup_s]
  · rw [fup_n e, fup_n e, fup_n e]
def clM (I : Nat → Nat → Int32) (m : Nat) : Nat → Nat → Int32 := fun x y => if (x = 21 ∨ x = 22) ∧ y < m then nI 0 else I x y
theorem clM_0 {I : Nat → Nat → Int32} : clM I 0 = I := by
  funext x y
  exact if_neg (by omega)
theorem clM_s {I : Nat → Nat → Int32} {i : Nat} : pm_ui (pm_ui (clM I i) 21 i (nI 0)) 22 i (nI 0) = clM I (i + 1) := by
  funext x y
  rw [pm_ui_a, pm_ui_a]
  unfold clM
  by_cases h1 : x = 22 ∧ y = i
  · rw [if_pos h1, if_pos ⟨.inr h1.1, by omega⟩]
  · rw [if_neg h1]
    by_cases h2 : x = 21 ∧ y = i
    · rw [if_pos h2, if_pos ⟨.inl h2.1, by omega⟩]
    · rw [if_neg h2]
      by_cases h3 : (x = 21 ∨ x = 22) ∧ y < i
      · rw [if_pos h3, if_pos ⟨h3.1, by omega⟩]
      · rw [if_neg h3, if_neg (by omega)]
theorem clM_o {I : Nat → Nat → Int32} {m x : Nat} (h1 : x ≠ 21) (h2 : x ≠ 22) : clM I m x = I x := by
  funext y
  exact if_neg (fun z => z.1.elim h1 h2)
theorem clM_z {I : Nat → Nat → Int32} {m x y : Nat} (h : x = 21 ∨ x = 22) (hy : y < m) : clM I m x y = 0 := (if_pos ⟨h, hy⟩).trans rfl
def apI (σ : pST) (c m : Nat) : Nat → Nat → Int32 := fun x y => if x = 21 ∧ 32 * c ≤ y ∧ y < 32 * c + m then (if wrM σ c (y - 32 * c) then nI 1 else nI 0) else if x = 24 ∧ 32 * c ≤ y ∧ y < 32 * c + m then nI 0 else σ.1 x y
def apJ (σ : pST) (c m : Nat) : Nat → Nat → Int64 := fun x y => if x = 23 ∧ 32 * c ≤ y ∧ y < 32 * c + m then σ.2 11 y else σ.2 x y
theorem ap_0 {σ : pST} {c : Nat} : ((apI σ c 0, apJ σ c 0) : pST) = σ := by
  refine Prod.ext ?_ ?_
  · funext x y
    show (if _ then _ else _) = _
    rw [if_neg (by omega), if_neg (by omega)]
  · funext x y
    show (if _ then _ else _) = _
    rw [if_neg (by omega)]
theorem ap_o {σ : pST} {c m x : Nat} (h1 : x ≠ 21) (h2 : x ≠ 24) : apI σ c m x = σ.1 x := by
  funext y
  unfold apI
  rw [if_neg (fun z => h1 z.1), if_neg (fun z => h2 z.1)]
theorem apJ_o {σ : pST} {c m x : Nat} (h1 : x ≠ 23) : apJ σ c m x = σ.2 x := by
  funext y
  exact if_neg (fun z => h1 z.1)
theorem ap_s {σ : pST} {c i : Nat} {v : Int32} (hv : v = if wrM σ c i then nI 1 else nI 0) : ((pm_ui (pm_ui (apI σ c i) 21 (32 * c + i) v) 24 (32 * c + i) (nI 0), pm_uj (apJ σ c i) 23 (32 * c + i) (σ.2 11 (32 * c + i))) : pST) = (apI σ c (i + 1), apJ σ c (i + 1)) := by
  refine Prod.ext ?_ ?_
  · funext x y
    show pm_ui (pm_ui (apI σ c i) 21 (32 * c + i) v) 24 (32 * c + i) (nI 0) x y = apI σ c (i + 1) x y
    simp only [pm_ui_a, apI]
    by_cases hy : y = 32 * c + i
    · have e : y - 32 * c = i := by omega
      rw [e]
      by_cases h1 : x = 24
      · rw [if_pos ⟨h1, hy⟩, if_neg (by omega), if_pos ⟨h1, by omega, by omega⟩]
      · rw [if_neg (fun z => h1 z.1)]
        by_cases h3 : x = 21
        · rw [if_pos ⟨h3, hy⟩, if_pos ⟨h3, by omega, by omega⟩, hv]
        · rw [if_neg (fun z => h3 z.1), if_neg (fun z => h3 z.1), if_neg (fun z => h1 z.1), if_neg (fun z => h3 z.1), if_neg (fun z => h1 z.1)]
    · rw [if_neg (fun z => hy z.2), if_neg (fun z => hy z.2)]
      have q : (32 * c ≤ y ∧ y < 32 * c + (i + 1)) ↔ (32 * c ≤ y ∧ y < 32 * c + i) := by omega
      simp only [q]
  · funext x y
    show pm_uj (apJ σ c i) 23 (32 * c + i) (σ.2 11 (32 * c + i)) x y = apJ σ c (i + 1) x y
    simp only [pm_uj_a, apJ]
    by_cases hy : y = 32 * c + i
    · by_cases h1 : x = 23
      · rw [if_pos ⟨h1, hy⟩, if_pos ⟨h1, by omega, by omega⟩, hy]
      · rw [if_neg (fun z => h1 z.1), if_neg (fun z => h1 z.1), if_neg (fun z => h1 z.1)]
    · rw [if_neg (fun z => hy z.2)]
      have q : (32 * c ≤ y ∧ y < 32 * c + (i + 1)) ↔ (32 * c ≤ y ∧ y < 32 * c + i) := by omega
      simp only [q]
def begS (V : RnS) (c : Nat) : RnS := (mkRnS V.T (fup V.am c at0) (fup V.bg c (V.bg c + 1)) (fup V.dd c 0) V.da V.al V.hw V.aw V.nm V.tk V.tc V.tn V.rr V.lr V.fe V.lk V.ud V.gu V.cn V.cc V.co)
def accS (V : RnS) (c : Nat) (A : AtS) (k : Nat) : RnS := (mkRnS V.T (fup V.am c A) V.bg (fup V.dd c (V.dd c + k)) (fup V.da c (V.da c + k)) (V.al + k) V.hw V.aw V.nm V.tk V.tc V.tn V.rr V.lr V.fe V.lk V.ud V.gu V.cn V.cc V.co)
theorem fup_self {α : Type} {f : Nat → α} {c : Nat} : fup f c (f c) = f := by
  funext d
  by_cases e : d = c
  · subst e; rw [fup_s]
  · rw [fup_n e]
theorem acc_0 {V : RnS} {c : Nat} : accS V c (V.am c) 0 = V := by
  unfold accS
  rw [Nat.add_zero, Nat.add_zero, Nat.add_zero, fup_self, fup_self, fup_self]
  rfl
theorem acc_s {V : RnS} {c k : Nat} {A A' : AtS} : accS (actS V c A) c A' k = accS V c A' (k + 1) := by
  unfold accS actS
  simp only [mkRnS_T, mkRnS_am, mkRnS_bg, mkRnS_dd, mkRnS_da, mkRnS_al, mkRnS_hw, mkRnS_aw, mkRnS_nm, mkRnS_tk, mkRnS_tc, mkRnS_tn, mkRnS_rr, mkRnS_lr, mkRnS_fe, mkRnS_lk, mkRnS_ud, mkRnS_gu, mkRnS_cn, mkRnS_cc, mkRnS_co, fup_s, fup_u]
  rw [show V.dd c + 1 + k = V.dd c + (k + 1) by omega, show V.da c + 1 + k = V.da c + (k + 1) by omega, show V.al + 1 + k = V.al + (k + 1) by omega]
theorem rm_beg {σ : pST} {B : BkS} {bd c : Nat} {S : RnS} (h : RM σ B bd S) (hok : ∀ d, d < 16 → 1 ≤ S.bg d → AtOK d (S.am d)) (hc : c < 16) : ∃ ρ, kX8_begin σ [.inr (.inr 0), .inl (nI c)] = some (ρ, none) ∧ RM ρ B bd (begS S c) ∧ FrR σ ρ := by
  obtain ⟨hb, hh⟩ := h
  obtain ⟨ρ, e, r1, r2, r3, r4, r5⟩ := rm_begin (σ := σ) (c := c) hc
  refine ⟨ρ, e, ⟨?_, ?_⟩, ?_⟩
  · refine mb_call (S' := begS S c) r2 hb hok rfl ⟨?_, fun _ => ?_⟩ fun d hd => ⟨fup_n hd, fup_n hd, fup_n hd⟩
    · rw [r3, (hb.a c hc).bg, nI_1]
      show _ = nI (fup S.bg c (S.bg c + 1) c)
      rw [fup_s]
    · show RMat ρ c (fup S.am c at0 c) ∧ ρ.1 20 c = nI (fup S.dd c 0 c)
      rw [fup_s, fup_s, r4]
      exact ⟨r1, rfl⟩
  · exact um_c hh (fun y z1 z2 => by
      obtain ⟨n1, n2, n3, n4⟩ := slW_ne z1 z2
      exact frb_0 r2 z2 n1 n2 n3 n4) (by rw [r5]; exact hh.al) (fun x z1 z2 => (frb_o r2 (.inr (Nat.le_trans (by decide) z1))).1) rfl rfl rfl rfl rfl rfl rfl rfl rfl rfl rfl rfl rfl rfl rfl
  · exact ⟨frb_0 r2 (by decide) (by decide) (by decide) (by decide) (by decide), frb_0 r2 (by decide) (by decide) (by decide) (by decide) (by decide)⟩
/-- what a call has run in order is published -/
theorem rm_apub {σ : pST} {B : BkS} {bd c : Nat} {S : RnS} (hc : c < 16) (h : RM σ B bd (accS (begS (ordS B S c) c) c (ordA B S.T.bf c) (ordK B S.T.bf c))) : RM (apI σ c 32, apJ σ c 32) B bd (ordS B S (c + 1)) ∧ FrR σ (apI σ c 32, apJ σ c 32) := by
  obtain ⟨hb, hh⟩ := h
  have eT : (accS (begS (ordS B S c) c) c (ordA B S.T.bf c) (ordK B S.T.bf c)).T = ordT B S.T.bf c := ordS_T c
  have eam : (ordS B S (c + 1)).am = (accS (begS (ordS B S c) c) c (ordA B S.T.bf c) (ordK B S.T.bf c)).am := (fup_u (f := (ordS B S c).am) (c := c) (x := at0)).symm
  have edd : (ordS B S (c + 1)).dd = (accS (begS (ordS B S c) c) c (ordA B S.T.bf c) (ordK B S.T.bf c)).dd := by
    show fup (ordS B S c).dd c (ordK B S.T.bf c) = fup (fup (ordS B S c).dd c 0) c (fup (ordS B S c).dd c 0 c + ordK B S.T.bf c)
    rw [fup_u, fup_s, Nat.zero_add]
  have ebg : (ordS B S (c + 1)).bg = (accS (begS (ordS B S c) c) c (ordA B S.T.bf c) (ordK B S.T.bf c)).bg := rfl
  have eal : (ordS B S (c + 1)).al = (accS (begS (ordS B S c) c) c (ordA B S.T.bf c) (ordK B S.T.bf c)).al := rfl
  have hbg : 1 ≤ (accS (begS (ordS B S c) c) c (ordA B S.T.bf c) (ordK B S.T.bf c)).bg c := by
    show 1 ≤ fup (ordS B S c).bg c ((ordS B S c).bg c + 1) c
    rw [fup_s]
    exact Nat.le_add_left _ _
  have hA : RMat σ c (ordA B S.T.bf c) := by
    have q := ((hb.a c hc).am hbg).1
    have q2 : (accS (begS (ordS B S c) c) c (ordA B S.T.bf c) (ordK B S.T.bf c)).am c = ordA B S.T.bf c := fup_s
    rw [q2] at q
    exact q
  have tb : RMtb σ (ordT B S.T.bf c) 16 := by rw [← eT]; exact hb.tb
  have fo : ∀ x, x ≠ 21 → x ≠ 24 → apI σ c 32 x = σ.1 x := fun x z1 z2 => ap_o z1 z2
  have fj : ∀ x, x ≠ 23 → apJ σ c 32 x = σ.2 x := fun x z1 => apJ_o z1
  have t2 : RMtb (apI σ c 32, apJ σ c 32) (ordT B S.T.bf (c + 1)) 16 := rm_pubg (num := 0) hA tb hc (fun y => by
      show apI σ c 32 21 y = _
      unfold apI
      by_cases q : 32 * c ≤ y ∧ y < 32 * c + 32
      · rw [if_pos ⟨rfl, q⟩, if_pos q]
      · rw [if_neg (fun z => q z.2), if_neg (fun z => absurd z.1 (by decide)), if_neg q]) (fun y => by
      show apI σ c 32 22 y = _
      rw [fo 22 (by decide) (by decide)]
      by_cases q : 32 * c ≤ y ∧ y < 32 * c + 32
      · rw [if_pos q]
        have q2 := (tb.st (y - 32 * c) c (by clear hb hh hA tb; omega) hc).2.1
        rw [show 32 * c + (y - 32 * c) = y by clear hb hh hA tb; omega, (ordT_s c c _).2.1 (Nat.le_refl _)] at q2
        exact q2
      · rw [if_neg q]) (fun y => ⟨fun q => by
      show apI σ c 32 24 y = _
      unfold apI
      rw [if_neg (fun z => absurd z.1 (by decide)), if_pos ⟨rfl, q.1, q.2.1⟩], fun q => by
      show apI σ c 32 24 y = _
      unfold apI
      rw [if_neg (fun z => absurd z.1 (by decide)), if_neg (fun z => q z.2)]⟩) (fun y => ⟨fun q => if_pos ⟨rfl, q.1, q.2.1⟩, fun q => if_neg (fun z => q z.2)⟩) (fj 1 (by decide))
  refine ⟨⟨⟨?_, t2, ?_, fun d hd => ?_⟩, ?_⟩, ⟨congrFun (fo 0 (by decide) (by decide)) 39, congrFun (fo 0 (by decide) (by decide)) 40⟩⟩
  · exact mbk_c hb.bk (congrFun (fo 0 (by decide) (by decide)) 1) fun x z1 z2 => ⟨fo x (le_ne z2 (by decide)) (le_ne z2 (by decide)), fj x (le_ne z2 (by decide))⟩
  · show ∀ y, apI σ c 32 22 y = 0 ∨ apI σ c 32 22 y = 1
    rw [fo 22 (by decide) (by decide)]
    exact hb.z
  · exact ma_s (ma_c (hb.a d hd) fun x z1 z2 => ⟨fo x (le_ne z2 (by decide)) (le_ne z2 (by decide)), fj x (le_ne z2 (by decide))⟩) (by rw [ebg]) (by rw [eam]) (by rw [edd])
  · exact um_c hh (fun y _ _ => congrFun (fo 0 (by decide) (by decide)) y) ((congrFun (fo 0 (by decide) (by decide)) 22).trans (by rw [eal]; exact hh.al)) (fun x z1 z2 => fo x (ge_ne z1 (by decide)) (ge_ne z1 (by decide))) rfl rfl rfl rfl rfl rfl rfl rfl rfl rfl rfl rfl rfl rfl rfl
theorem rm_clr {σ : pST} {B : BkS} {bd : Nat} {S : RnS} (h : RM σ B bd S) : RM (clM σ.1 512, σ.2) B bd (ordS B S 0) ∧ FrR σ (clM σ.1 512, σ.2) := by
  obtain ⟨hb, hh⟩ := h
  have fo : ∀ x, x ≠ 21 → x ≠ 22 → clM σ.1 512 x = σ.1 x := fun x z1 z2 => clM_o z1 z2
  refine ⟨⟨⟨?_, ?_, ?_, fun d hd => ?_⟩, ?_⟩, ⟨congrFun (fo 0 (by decide) (by decide)) 39, congrFun (fo 0 (by decide) (by decide)) 40⟩⟩
  · exact mbk_c hb.bk (congrFun (fo 0 (by decide) (by decide)) 1) fun x z1 z2 => ⟨fo x (le_ne z2 (by decide)) (le_ne z2 (by decide)), rfl⟩
  · refine ⟨fun k j hk hj => ⟨?_, ?_, Nat.zero_le _⟩, fun k j hk hj hs => absurd rfl hs, hb.tb.bf⟩
    · exact clM_z (.inl rfl) (by clear hb hh; omega)
    · exact clM_z (.inr rfl) (by clear hb hh; omega)
  · intro y
    show clM σ.1 512 22 y = 0 ∨ clM σ.1 512 22 y = 1
    by_cases e : y < 512
    · exact .inl (clM_z (.inr rfl) e)
    · have : clM σ.1 512 22 y = σ.1 22 y := if_neg (fun z => e z.2)
      rw [this]
      exact hb.z y
  · exact ma_s (ma_c (hb.a d hd) fun x z1 z2 => ⟨fo x (le_ne z2 (by decide)) (le_ne z2 (by decide)), rfl⟩) rfl rfl rfl
  · exact um_c hh (fun y _ _ => congrFun (fo 0 (by decide) (by decide)) y) ((congrFun (fo 0 (by decide) (by decide)) 22).trans hh.al) (fun x z1 z2 => fo x (ge_ne z1 (by decide)) (ge_ne z1 (by decide))) rfl rfl rfl rfl rfl rfl rfl rfl rfl rfl rfl rfl rfl rfl rfl
theorem ordS_ok {B : BkS} {S : RnS} (hB : BkOK B) (h : ∀ d, d < 16 → 1 ≤ S.bg d → AtOK d (S.am d)) : ∀ c, c ≤ 16 → ∀ d, d < 16 → 1 ≤ (ordS B S c).bg d → AtOK d ((ordS B S c).am d)
  | 0, _, d, hd, z => h d hd z
  | c + 1, hc, d, hd, z => by
    show AtOK d (fup (ordS B S c).am c (ordA B S.T.bf c) d)
    by_cases e : d = c
    · subst e; rw [fup_s]; exact ordA_ok hB hd
    · rw [fup_n e]
      refine ordS_ok hB h c (by omega) d hd ?_
      have z' : 1 ≤ fup (ordS B S c).bg c ((ordS B S c).bg c + 1) d := z
      rw [fup_n e] at z'
      exact z'
