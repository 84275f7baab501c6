/-! ===== looks; a turn ===== -/
abbrev kr100 (A : AtS) : Prop := ∀ i, i < A.kn → A.kr i ≤ 100
theorem kr_doA {B : BkS} {T : TbS} {c : Nat} {A : AtS} (hT : ∀ j k, T.nm j k ≤ 100) (h : kr100 A) : kr100 (doA B T c A).2 := by
  have hr : ∀ r k, kr100 (readA T c r k A).2 := fun r k => by
    unfold readA
    split
    · exact h
    · split
      · exact h
      · split
        · exact h
        · intro i hi
          show fup A.kr A.kn (snT T k (wbT T k c)) i ≤ 100
          by_cases e : i = A.kn
          · subst e
            rw [fup_s]
            cases wbT T k c with
            | none => exact Nat.zero_le _
            | some j => exact hT j k
          · rw [fup_n e]
            have hi' : i < A.kn + 1 := hi
            exact h i (by omega)
  unfold doA
  split
  · have h2 := hr (B.lf (c * 12 + A.p)) (lfA (B.vl (c * 12 + A.p) + A.rg (B.rt (c * 12 + A.p))))
    cases hq : readA T c (B.lf (c * 12 + A.p)) (lfA (B.vl (c * 12 + A.p) + A.rg (B.rt (c * 12 + A.p)))) A with
    | mk o A' =>
      rw [hq] at h2
      cases o with
      | none => exact h2
      | some j => exact h2
  · unfold perfA
    repeat' split
    all_goals exact h
theorem fcA_l {T : TbS} {c : Nat} {A : AtS} : ∀ {m i j}, fcA T c A m i = some j → i ≤ j ∧ j < i + m
  | 0, _, _, h => by cases h
  | m + 1, i, j, h => by
    unfold fcA at h
    split at h
    · cases h; omega
    · have := fcA_l h; omega
theorem oI_inj {o p : Option Nat} (ho : ∀ j, o = some j → j < 16) (hp : ∀ j, p = some j → j < 16) (h : oI o = oI p) : o = p := by
  cases o with
  | none =>
    cases p with
    | none => rfl
    | some j => exact absurd h.symm (oI_m1 (hp j rfl))
  | some i =>
    cases p with
    | none => exact absurd h (oI_m1 (ho i rfl))
    | some j =>
      have h1 := ho i rfl
      have h2 := hp j rfl
      rw [(nI_eq (by omega) (by omega)).mp h]
theorem wbT_i {T : TbS} {k c : Nat} (hc : c ≤ 16) : ∀ j, wbT T k c = some j → j < 16 := fun j h => by have := (wbT_l h).1; omega
theorem ch_iff {σ : pST} {a t c i : Nat} {A : AtS} {T : TbS} (hc : c < 16) (h : RXat σ a c A) (hT : RXtb σ t T 16) (hk : AtOK c A) (hr : kr100 A) (hn : ∀ j k, T.nm j k ≤ 100) (hi : i < A.kn) : chP σ a t c A.kl i ↔ chA T c A i := by
  obtain ⟨k1, k2, k3, _⟩ := h.kl i hi
  obtain ⟨l1, l2⟩ := hk.kl i hi
  have hw := rx_wb hT l1 c (by omega)
  have hkr := hr i hi
  unfold chP chA
  rw [hw, k2, k3]
  have i1 := wbT_i (T := T) (k := A.kl i) (c := c) (by omega)
  have i2 : ∀ j, A.kw i = some j → j < 16 := fun j z => by have := l2 j z; omega
  by_cases e : wbT T (A.kl i) c = A.kw i
  · rw [← e]
    cases hz : wbT T (A.kl i) c with
    | none => simp [oI, spO, isPh, snO, kI]
    | some j =>
      have hj := i1 j hz
      obtain ⟨s1, s2⟩ := hT.st (A.kl i) j l1 hj
      obtain ⟨n1, _⟩ := hT.nv (A.kl i) j l1 hj (wbT_l hz).2
      have hnj := hn j (A.kl i)
      show (¬ oI (some j) = oI (some j) ∨ ¬ (if σ.1 (t + 2) (A.kl i * 16 + j) = nI 2 then (1 : Int32) else 0) = 0 ∨ ¬ σ.1 (t + 3) (A.kl i * 16 + j) = nI (A.kr i)) ↔ (¬ some j = some j ∨ (T.st j (A.kl i) == 2) = true ∨ (¬ some j = none ∧ ¬ T.nm j (A.kl i) = A.kr i))
      rw [s1, n1]
      have q1 : nI (T.st j (A.kl i)) = nI 2 ↔ T.st j (A.kl i) = 2 := nI_eq (by omega) (by omega)
      have q2 : nI (T.nm j (A.kl i)) = nI (A.kr i) ↔ T.nm j (A.kl i) = A.kr i := nI_eq (by omega) (by omega)
      rw [q2]
      by_cases e2 : T.st j (A.kl i) = 2
      · rw [if_pos (q1.mpr e2)]
        simp [e2]
      · rw [if_neg (fun z => e2 (q1.mp z))]
        simp [e2]
  · exact ⟨fun _ => .inl e, fun _ => .inl fun z => e (oI_inj i1 i2 z)⟩
def fcI (A : AtS) : Option Nat → Int32
  | none => -1
  | some i => nI (A.kl i)
theorem fc_eq {σ : pST} {a t c : Nat} {A : AtS} {T : TbS} (hc : c < 16) (h : RXat σ a c A) (hT : RXtb σ t T 16) (hk : AtOK c A) (hr : kr100 A) (hn : ∀ j k, T.nm j k ≤ 100) : ∀ m i, i + m = A.kn → fcN (chP σ a t c A.kl) (fun i => nI (A.kl i)) m i = fcI A (fcA T c A m i)
  | 0, _, _ => rfl
  | m + 1, i, hi => by
    have q := ch_iff hc h hT hk hr hn (show i < A.kn by omega)
    unfold fcN fcA
    by_cases e : chA T c A i
    · rw [if_pos (q.mpr e), if_pos e]
      rfl
    · rw [if_neg (fun z => e (q.mp z)), if_neg e]
      exact fc_eq hc h hT hk hr hn m (i + 1) (by omega)
theorem b_s {σ : pST} {B : BkS} {S S' : RnS} (h : RXb σ B S) (h0 : S'.T = S.T) (h1 : S'.bg = S.bg) (h2 : S'.da = S.da) (h3 : S'.am = S.am) (h4 : S'.dd = S.dd) : RXb σ B S' := ⟨h.bk, by rw [h0]; exact h.tb, fun c hc => a_s (h.a c hc) (by rw [h1]) (by rw [h2]) (by rw [h3]) (by rw [h4])⟩
theorem rx_redo {σ : pST} {B : BkS} {sz bd w c : Nat} {S : RnS} (h : RX σ B sz bd S) (hw : w < 4) (hc : c < 16) (hn : S.nm c ≤ 100) (hl : S.lr ≤ 16) (hb1 : bd ≤ 100) (hf : S.fe = false) : ∃ σb, kX6_undo σ [.inr (.inr 8), .inl (nI c)] = some (σb, none) ∧ σb.1 8 9 = nI S.rr ∧ ((¬ σb.1 8 6 = 0 ∧ RX σb B sz bd (redoS bd S w c) ∧ FrS σ σb) ∨ (σb.1 8 6 = 0 ∧ S.rr ≤ c ∧ RX σb B sz bd (redoS bd S w c) ∧ FrS σ σb) ∨ (σb.1 8 6 = 0 ∧ c < S.rr ∧ ∃ σc, kX6_giveRun σb [.inr (.inr 8), .inl (nI w), .inl (nI c)] = some (σc, none) ∧ RX σc B sz bd (redoS bd S w c) ∧ FrS σ σc)) := by
  obtain ⟨σb, e, r, fr⟩ := rx_undo h hc hn hl hb1 hf
  have hfe := r.2.fe
  have hrr : σb.1 8 9 = nI S.rr := r.2.rr
  refine ⟨σb, e, hrr, ?_⟩
  unfold redoS
  generalize undoS bd S c = E at r hfe ⊢
  cases hE : E.fe with
  | true =>
    rw [if_neg (fun z => by cases z.1)]
    rw [hE] at hfe
    exact .inl ⟨by rw [hfe]; decide, r, fr⟩
  | false =>
    rw [hE] at hfe
    by_cases q : c < S.rr
    · rw [if_pos ⟨rfl, q⟩]
      obtain ⟨σc, e2, r2, fr2⟩ := rx_giveRun (w := w) (c := c) r hw hc
      exact .inr (.inr ⟨hfe, q, σc, e2, r2, fr.trans fr2⟩)
    · rw [if_neg (fun z => q z.2)]
      exact .inr (.inl ⟨hfe, Nat.le_of_not_lt q, r, fr⟩)
theorem rx_look0 {σ : pST} {B : BkS} {sz bd w : Nat} {S : RnS} (h : RX σ B sz bd S) : RX (pm_ui (pm_ui (σ.1) 150 w (nI 0)) 8 3 (nI (S.lk + 1)), σ.2) B sz bd (mkRnS S.T S.am S.bg S.dd S.da S.al S.hw S.aw S.nm (fup S.tk w 0) S.tc S.tn S.rr S.lr S.fe (S.lk + 1) S.ud S.gu S.cn S.cc S.co) ∧ FrS σ (pm_ui (pm_ui (σ.1) 150 w (nI 0)) 8 3 (nI (S.lk + 1)), σ.2) := by
  refine ⟨⟨b_s (S := S) (b_w (σ := σ) h.1 fun x z1 z2 z3 z4 => ?_) rfl rfl rfl rfl rfl, uw_lk (uw_tk0 h.2)⟩, FrS.w (fun x z => ?_) ?_⟩
  · rw [ui_o z3, ui_o (le_ne z2 (by decide))]
  · rw [ui_o (fr_ne z (by decide) (by decide)), ui_o (fr_ne z (by decide) (by decide))]
  · simp [pm_ui_a]
theorem rx_note {σ : pST} {B : BkS} {sz bd c : Nat} {o : Option Nat} {S : RnS} (h : RX σ B sz bd S) (hcn : S.cn < 2 ^ 30) : ∃ ρ, kX3_note σ [.inr (.inr 144), .inl (nI c), .inl (oI o)] = some (ρ, none) ∧ RX ρ B sz bd (noteS S c o) ∧ FrS σ ρ := by
  have fr : ∀ x, x ≠ 144 → x ≠ 145 → x ≠ 146 → (pm_ui (if S.cn < 200 then pm_ui (pm_ui (σ.1) 145 S.cn (nI c)) 146 S.cn (oI o) else σ.1) 144 0 (nI (S.cn + 1))) x = σ.1 x := fun x z1 z2 z3 => by
    rw [ui_o z1]
    split
    · rw [ui_o z3, ui_o z2]
    · rfl
  exact ⟨_, ev_X3_note σ h.2.cn hcn (nI c) (oI o), ⟨b_s (S := S) (b_w (σ := σ) h.1 fun x z1 z2 z3 z4 => fr x (le_ne z2 (by decide)) (le_ne z2 (by decide)) (le_ne z2 (by decide))) rfl rfl rfl rfl rfl, uw_note h.2⟩, FrS.w (fun x z => fr x (fr_ne z (by decide) (by decide)) (fr_ne z (by decide) (by decide)) (fr_ne z (by decide) (by decide))) (by rw [fr 8 (by decide) (by decide) (by decide)])⟩
theorem rx_look {σ : pST} {B : BkS} {sz bd w : Nat} {S : RnS} (hB : BkOK B) (h : RX σ B sz bd S) (hS : SOK B sz S) (hK : ∀ c, kr100 (S.am c)) (hf : S.fe = false) (hb1 : bd ≤ 100) (hw : w < 4) (h2 : S.tk w = 2) (hcn : S.cn < 2 ^ 30) : ∃ ρ, kX6_look σ [.inr (.inr 8), .inl (nI w)] = some (ρ, none) ∧ RX ρ B sz bd (lookS bd S w) ∧ FrS σ ρ := by
  obtain ⟨hc, hb⟩ := hS.tc w (by rw [h2]; decide)
  have hc16 : S.tc w < 16 := Nat.lt_of_lt_of_le hc hB.n
  have htc := h.2.tc w hw (by rw [h2]; decide)
  have htn := h.2.tn w hw h2
  have q1 := hS.hw (S.tc w)
  have q2 := hS.nm (S.tc w)
  have q3 := hS.tn w h2
  have hlr : S.lr ≤ 16 := Nat.le_trans hS.lr hB.n
  have hrr : S.rr ≤ 16 := Nat.le_trans hS.rr hB.n
  have hak := hS.am _ hc16 hb
  have htm := hS.tn1
  have v1 := h.2.lk
  have v2 := h.2.hw _ hc16
  have v3 := h.2.nm _ hc16
  obtain ⟨r0, f0⟩ := rx_look0 (w := w) h
  clear h hS
  unfold lookS
  by_cases hq : S.hw (S.tc w) = 2 ∧ S.nm (S.tc w) = S.tn w
  · rw [if_pos hq]
    have hA := (r0.1.a _ hc16).am hb
    have ef := ev_X0_firstChanged (pm_ui (pm_ui (σ.1) 150 w (nI 0)) 8 3 (nI (S.lk + 1)), σ.2) (a := 16 + 8 * S.tc w) (t := 10) (c := S.tc w) (lf := (S.am (S.tc w)).kl) (kp := (S.am (S.tc w)).kn) (isA9 hc16) isT10 (Nat.le_of_lt hc16) hA.1.s0 hA.1.kn hak.k12 (fun i hi => ⟨(hA.1.kl i hi).1, (hak.kl i hi).1⟩)
    have ec := fc_eq (t := 10) hc16 hA.1 r0.1.tb hak (hK _) htm (S.am (S.tc w)).kn 0 (Nat.zero_add _)
    have ec' : fcN (chP (pm_ui (pm_ui (σ.1) 150 w (nI 0)) 8 3 (nI (S.lk + 1)), σ.2) (16 + 8 * S.tc w) 10 (S.tc w) (S.am (S.tc w)).kl) (fun i => nI ((S.am (S.tc w)).kl i)) (S.am (S.tc w)).kn 0 = fcI (S.am (S.tc w)) (fcA S.T (S.tc w) (S.am (S.tc w)) (S.am (S.tc w)).kn 0) := ec
    rw [ec'] at ef
    cases hfc : fcA S.T (S.tc w) (S.am (S.tc w)) (S.am (S.tc w)).kn 0 with
    | none =>
      rw [hfc] at ef
      exact ⟨_, ev_X6_look_s σ hw hc16 htc v1 v2 q1 v3 (by omega) htn (by omega) hq ef rfl, r0, f0⟩
    | some i =>
      rw [hfc] at ef
      have hi := (fcA_l hfc).2
      have hk32 := (hak.kl i (by omega)).1
      have ewb := ev_X5_writerBelow_o (pm_ui (pm_ui (σ.1) 150 w (nI 0)) 8 3 (nI (S.lk + 1)), σ.2) (t := 10) (k := (S.am (S.tc w)).kl i) (c := S.tc w) isT10 hk32 (Nat.le_of_lt hc16)
      have ewb2 : wbO ((pm_ui (pm_ui (σ.1) 150 w (nI 0)) 8 3 (nI (S.lk + 1))) 12) ((S.am (S.tc w)).kl i) (S.tc w) = wbT S.T ((S.am (S.tc w)).kl i) (S.tc w) := rx_wb r0.1.tb hk32 (S.tc w) (Nat.le_of_lt hc16)
      have ewb3 : kX5_writerBelow (pm_ui (pm_ui (σ.1) 150 w (nI 0)) 8 3 (nI (S.lk + 1)), σ.2) [.inr (.inr 10), .inl (nI ((S.am (S.tc w)).kl i)), .inl (nI (S.tc w))] = some ((pm_ui (pm_ui (σ.1) 150 w (nI 0)) 8 3 (nI (S.lk + 1)), σ.2), some (.inl (oI (wbT S.T ((S.am (S.tc w)).kl i) (S.tc w))))) := by rw [← ewb2]; exact ewb
      have hm1 : ¬ nI ((S.am (S.tc w)).kl i) = -1 := by
        have : ∀ j, j < 32 → ¬ nI j = -1 := by decide
        exact this _ hk32
      show ∃ ρ, _ = _ ∧ RX ρ B sz bd (redoS bd (noteS (mkRnS S.T S.am S.bg S.dd S.da S.al S.hw S.aw S.nm (fup S.tk w 0) S.tc S.tn S.rr S.lr S.fe (S.lk + 1) S.ud S.gu S.cn S.cc S.co) (S.tc w) (wbT S.T ((S.am (S.tc w)).kl i) (S.tc w))) w (S.tc w)) ∧ _
      obtain ⟨σa, ea, ra, fa⟩ := rx_note (c := S.tc w) (o := wbT S.T ((S.am (S.tc w)).kl i) (S.tc w)) r0 hcn
      have g1 : (noteS (mkRnS S.T S.am S.bg S.dd S.da S.al S.hw S.aw S.nm (fup S.tk w 0) S.tc S.tn S.rr S.lr S.fe (S.lk + 1) S.ud S.gu S.cn S.cc S.co) (S.tc w) (wbT S.T ((S.am (S.tc w)).kl i) (S.tc w))).nm = S.nm := rfl
      have g2 : (noteS (mkRnS S.T S.am S.bg S.dd S.da S.al S.hw S.aw S.nm (fup S.tk w 0) S.tc S.tn S.rr S.lr S.fe (S.lk + 1) S.ud S.gu S.cn S.cc S.co) (S.tc w) (wbT S.T ((S.am (S.tc w)).kl i) (S.tc w))).lr = S.lr := rfl
      have g3 : (noteS (mkRnS S.T S.am S.bg S.dd S.da S.al S.hw S.aw S.nm (fup S.tk w 0) S.tc S.tn S.rr S.lr S.fe (S.lk + 1) S.ud S.gu S.cn S.cc S.co) (S.tc w) (wbT S.T ((S.am (S.tc w)).kl i) (S.tc w))).rr = S.rr := rfl
      have g4 : (noteS (mkRnS S.T S.am S.bg S.dd S.da S.al S.hw S.aw S.nm (fup S.tk w 0) S.tc S.tn S.rr S.lr S.fe (S.lk + 1) S.ud S.gu S.cn S.cc S.co) (S.tc w) (wbT S.T ((S.am (S.tc w)).kl i) (S.tc w))).fe = S.fe := rfl
      generalize noteS (mkRnS S.T S.am S.bg S.dd S.da S.al S.hw S.aw S.nm (fup S.tk w 0) S.tc S.tn S.rr S.lr S.fe (S.lk + 1) S.ud S.gu S.cn S.cc S.co) (S.tc w) (wbT S.T ((S.am (S.tc w)).kl i) (S.tc w)) = E at ra g1 g2 g3 g4 ⊢
      obtain ⟨σb, eb, erb, hcase⟩ := rx_redo (w := w) (c := S.tc w) ra hw hc16 (by rw [g1]; exact q2) (by rw [g2]; exact hlr) hb1 (by rw [g4]; exact hf)
      rw [g3] at erb hcase
      rcases hcase with ⟨z1, z2, z3⟩ | ⟨z1, z2, z3, z4⟩ | ⟨z1, z2, σc, z3, z4, z5⟩
      · exact ⟨σb, ev_X6_look_f σ hw hc16 htc v1 v2 q1 v3 (by omega) htn (by omega) hq ef hm1 ewb3 ea eb z1, z2, f0.trans (fa.trans z3)⟩
      · exact ⟨σb, ev_X6_look_u σ hw hc16 htc v1 v2 q1 v3 (by omega) htn (by omega) hq ef hm1 ewb3 ea eb z1 erb hrr z2, z3, f0.trans (fa.trans z4)⟩
      · exact ⟨σc, ev_X6_look_r σ hw hc16 htc v1 v2 q1 v3 (by omega) htn (by omega) hq ef hm1 ewb3 ea eb z1 erb hrr z2 z3, z4, f0.trans (fa.trans z5)⟩
  · rw [if_neg hq]
    exact ⟨_, ev_X6_look_n σ hw hc16 htc v1 v2 q1 v3 (by omega) htn (by omega) hq, r0, f0⟩
theorem rx_setlr {σ : pST} {B : BkS} {sz bd x : Nat} {S : RnS} (h : RX σ B sz bd S) : RX (pm_ui (σ.1) 8 10 (nI x), σ.2) B sz bd (mkRnS S.T S.am S.bg S.dd S.da S.al S.hw S.aw S.nm S.tk S.tc S.tn S.rr (x) S.fe S.lk S.ud S.gu S.cn S.cc S.co) ∧ FrS σ (pm_ui (σ.1) 8 10 (nI x), σ.2) := by
  refine ⟨⟨b_s (S := S) (b_w (σ := σ) h.1 fun x z1 z2 z3 z4 => ui_o z3) rfl rfl rfl rfl rfl, uw_lr h.2⟩, FrS.w (fun x z => ui_o (fr_ne z (by decide) (by decide))) ?_⟩
  simp [pm_ui_a]
theorem rx_setrr {σ : pST} {B : BkS} {sz bd x : Nat} {S : RnS} (h : RX σ B sz bd S) : RX (pm_ui (σ.1) 8 9 (nI x), σ.2) B sz bd (mkRnS S.T S.am S.bg S.dd S.da S.al S.hw S.aw S.nm S.tk S.tc S.tn (x) S.lr S.fe S.lk S.ud S.gu S.cn S.cc S.co) ∧ FrS σ (pm_ui (σ.1) 8 9 (nI x), σ.2) := by
  refine ⟨⟨b_s (S := S) (b_w (σ := σ) h.1 fun x z1 z2 z3 z4 => ui_o z3) rfl rfl rfl rfl rfl, uw_rr h.2⟩, FrS.w (fun x z => ui_o (fr_ne z (by decide) (by decide))) ?_⟩
  simp [pm_ui_a]
theorem rx_take {σ : pST} {B : BkS} {sz bd w : Nat} {S : RnS} (hB : BkOK B) (h : RX σ B sz bd S) (hS : SOK B sz S) (hf : S.fe = false) (hw : w < 4) : ∃ ρ, kX6_takeTask σ [.inr (.inr 8), .inl (nI w)] = some (ρ, none) ∧ RX ρ B sz bd (takeS B S w) ∧ FrS σ ρ := by
  have hn := hB.n
  have hlr : S.lr ≤ 16 := Nat.le_trans hS.lr hn
  have hrr : S.rr ≤ 16 := Nat.le_trans hS.rr hn
  have q1 := hS.hw
  have v1 := h.2.lr hf
  have v2 := h.2.rr
  have v3 := h.2.n
  have v4 := h.2.hw
  clear hS
  unfold takeS
  by_cases h1 : S.lr < S.rr
  · rw [if_pos h1]
    have h16 : S.lr < 16 := Nat.lt_of_lt_of_le h1 hrr
    obtain ⟨r, fr⟩ := rx_setlr (x := S.lr + 1) h
    by_cases h2 : S.hw S.lr = 2
    · rw [if_pos h2]
      obtain ⟨ρ, e, r2, fr2⟩ := rx_giveLook (w := w) (c := S.lr) r hw h16
      exact ⟨ρ, ev_X6_take_ll σ hw v1 hlr v2 hrr v3 hn h1 (v4 _ h16) h2 e, r2, fr.trans fr2⟩
    · rw [if_neg h2]
      exact ⟨_, ev_X6_take_l σ hw v1 hlr v2 hrr v3 hn h1 (v4 _ h16) (q1 _) h2, r, fr⟩
  · rw [if_neg h1]
    by_cases h3 : S.rr < B.n
    · rw [if_pos h3]
      have h16 : S.rr < 16 := Nat.lt_of_lt_of_le h3 hn
      obtain ⟨r, fr⟩ := rx_setrr (x := S.rr + 1) h
      by_cases h2 : S.hw S.rr = 0
      · rw [if_pos h2]
        obtain ⟨ρ, e, r2, fr2⟩ := rx_giveRun (w := w) (c := S.rr) r hw h16
        exact ⟨ρ, ev_X6_take_rr σ hw v1 hlr v2 hrr v3 hn h1 h3 (v4 _ h16) h2 e, r2, fr.trans fr2⟩
      · rw [if_neg h2]
        exact ⟨_, ev_X6_take_r σ hw v1 hlr v2 hrr v3 hn h1 h3 (v4 _ h16) (q1 _) h2, r, fr⟩
    · rw [if_neg h3]
      exact ⟨σ, ev_X6_take_i σ hw v1 hlr v2 hrr v3 hn h1 h3, h, ⟨fun x _ => ⟨rfl, rfl⟩, rfl⟩⟩
theorem rx_step {σ : pST} {B : BkS} {sz bd w : Nat} {S : RnS} (hB : BkOK B) (h : RX σ B sz bd S) (hS : SOK B sz S) (hK : ∀ c, kr100 (S.am c)) (hf : S.fe = false) (hb1 : bd ≤ 100) (hw : w < 4) (hcn : S.cn < 2 ^ 30) : ∃ ρ, kX6_step σ [.inr (.inr 8), .inl (nI w), .inr (.inr 2)] = some (ρ, none) ∧ RX ρ B sz bd (stepS B bd S w) ∧ FrS σ ρ := by
  have ht := h.2.tk w hw
  have h2 := hS.tk w
  unfold stepS
  by_cases e1 : S.tk w = 1
  · rw [if_pos e1]
    obtain ⟨ρ, e, r, fr⟩ := rx_goOn hB h hS hf hw e1 hcn
    exact ⟨ρ, ev_X6_step_1 σ hw (by rw [ht, e1]) e, r, fr⟩
  · rw [if_neg e1]
    by_cases e2 : S.tk w = 2
    · rw [if_pos e2]
      obtain ⟨ρ, e, r, fr⟩ := rx_look hB h hS hK hf hb1 hw e2 hcn
      exact ⟨ρ, ev_X6_step_2 σ hw (by rw [ht, e2]) e, r, fr⟩
    · rw [if_neg e2]
      obtain ⟨ρ, e, r, fr⟩ := rx_take hB h hS hf hw
      have e0 : S.tk w = 0 := by
        clear h hS r fr e
        omega
      exact ⟨ρ, ev_X6_step_0 σ hw (by rw [ht, e0]) e, r, fr⟩
