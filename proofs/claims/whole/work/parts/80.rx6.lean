/-! ===== the class's workers keep to the plain machine ===== -/
abbrev RXw (σ : pST) (B : BkS) (sz : Nat) (bd : Nat) (S : RnS) : Prop := (σ.1 9 2 = nI B.n) ∧ (σ.1 8 7 = nI sz) ∧ (σ.1 8 8 = nI bd) ∧ (σ.1 8 9 = nI S.rr) ∧ (S.fe = false → σ.1 8 10 = nI S.lr) ∧ (σ.1 8 3 = nI S.lk) ∧ (σ.1 8 4 = nI S.ud) ∧ (σ.1 8 5 = nI S.gu) ∧ (σ.1 8 6 = cond S.fe 1 0) ∧ (∀ c, c < 16 → σ.1 147 c = nI (S.hw c)) ∧ (∀ c, c < 16 → S.hw c = 3 → σ.1 148 c = nI (S.aw c)) ∧ (∀ c, c < 16 → σ.1 149 c = nI (S.nm c)) ∧ (∀ w, w < 4 → σ.1 150 w = nI (S.tk w)) ∧ (∀ w, w < 4 → ¬ S.tk w = 0 → σ.1 151 w = nI (S.tc w)) ∧ (∀ w, w < 4 → S.tk w = 2 → σ.1 152 w = nI (S.tn w)) ∧ (σ.1 144 0 = nI S.cn) ∧ (∀ i, i < 200 → i < S.cn → σ.1 145 i = nI (S.cc i) ∧ σ.1 146 i = oI (S.co i))
theorem RXw.n {σ : pST} {B : BkS} {sz : Nat} {bd : Nat} {S : RnS} (h : RXw σ B sz bd S) : σ.1 9 2 = nI B.n := h.1
theorem RXw.sz {σ : pST} {B : BkS} {sz : Nat} {bd : Nat} {S : RnS} (h : RXw σ B sz bd S) : σ.1 8 7 = nI sz := h.2.1
theorem RXw.bd {σ : pST} {B : BkS} {sz : Nat} {bd : Nat} {S : RnS} (h : RXw σ B sz bd S) : σ.1 8 8 = nI bd := h.2.2.1
theorem RXw.rr {σ : pST} {B : BkS} {sz : Nat} {bd : Nat} {S : RnS} (h : RXw σ B sz bd S) : σ.1 8 9 = nI S.rr := h.2.2.2.1
theorem RXw.lr {σ : pST} {B : BkS} {sz : Nat} {bd : Nat} {S : RnS} (h : RXw σ B sz bd S) : S.fe = false → σ.1 8 10 = nI S.lr := h.2.2.2.2.1
theorem RXw.lk {σ : pST} {B : BkS} {sz : Nat} {bd : Nat} {S : RnS} (h : RXw σ B sz bd S) : σ.1 8 3 = nI S.lk := h.2.2.2.2.2.1
theorem RXw.ud {σ : pST} {B : BkS} {sz : Nat} {bd : Nat} {S : RnS} (h : RXw σ B sz bd S) : σ.1 8 4 = nI S.ud := h.2.2.2.2.2.2.1
theorem RXw.gu {σ : pST} {B : BkS} {sz : Nat} {bd : Nat} {S : RnS} (h : RXw σ B sz bd S) : σ.1 8 5 = nI S.gu := h.2.2.2.2.2.2.2.1
theorem RXw.fe {σ : pST} {B : BkS} {sz : Nat} {bd : Nat} {S : RnS} (h : RXw σ B sz bd S) : σ.1 8 6 = cond S.fe 1 0 := h.2.2.2.2.2.2.2.2.1
theorem RXw.hw {σ : pST} {B : BkS} {sz : Nat} {bd : Nat} {S : RnS} (h : RXw σ B sz bd S) : ∀ c, c < 16 → σ.1 147 c = nI (S.hw c) := h.2.2.2.2.2.2.2.2.2.1
theorem RXw.aw {σ : pST} {B : BkS} {sz : Nat} {bd : Nat} {S : RnS} (h : RXw σ B sz bd S) : ∀ c, c < 16 → S.hw c = 3 → σ.1 148 c = nI (S.aw c) := h.2.2.2.2.2.2.2.2.2.2.1
theorem RXw.nm {σ : pST} {B : BkS} {sz : Nat} {bd : Nat} {S : RnS} (h : RXw σ B sz bd S) : ∀ c, c < 16 → σ.1 149 c = nI (S.nm c) := h.2.2.2.2.2.2.2.2.2.2.2.1
theorem RXw.tk {σ : pST} {B : BkS} {sz : Nat} {bd : Nat} {S : RnS} (h : RXw σ B sz bd S) : ∀ w, w < 4 → σ.1 150 w = nI (S.tk w) := h.2.2.2.2.2.2.2.2.2.2.2.2.1
theorem RXw.tc {σ : pST} {B : BkS} {sz : Nat} {bd : Nat} {S : RnS} (h : RXw σ B sz bd S) : ∀ w, w < 4 → ¬ S.tk w = 0 → σ.1 151 w = nI (S.tc w) := h.2.2.2.2.2.2.2.2.2.2.2.2.2.1
theorem RXw.tn {σ : pST} {B : BkS} {sz : Nat} {bd : Nat} {S : RnS} (h : RXw σ B sz bd S) : ∀ w, w < 4 → S.tk w = 2 → σ.1 152 w = nI (S.tn w) := h.2.2.2.2.2.2.2.2.2.2.2.2.2.2.1
theorem RXw.cn {σ : pST} {B : BkS} {sz : Nat} {bd : Nat} {S : RnS} (h : RXw σ B sz bd S) : σ.1 144 0 = nI S.cn := h.2.2.2.2.2.2.2.2.2.2.2.2.2.2.2.1
theorem RXw.cf {σ : pST} {B : BkS} {sz : Nat} {bd : Nat} {S : RnS} (h : RXw σ B sz bd S) : ∀ i, i < 200 → i < S.cn → σ.1 145 i = nI (S.cc i) ∧ σ.1 146 i = oI (S.co i) := h.2.2.2.2.2.2.2.2.2.2.2.2.2.2.2.2
theorem uw_tk0 {σ : pST} {B : BkS} {sz bd : Nat} {S : RnS} (h : RXw σ B sz bd S) {w : Nat} : RXw (pm_ui (σ.1) 150 w (nI 0), σ.2) B sz bd (mkRnS S.T S.am S.bg S.dd S.da S.al S.hw S.aw S.nm (fup S.tk w 0) S.tc S.tn S.rr S.lr S.fe S.lk S.ud S.gu S.cn S.cc S.co) := by
  refine ⟨?_, ?_, ?_, ?_, ?_, ?_, ?_, ?_, ?_, ?_, ?_, ?_, ?_, ?_, ?_, ?_, ?_⟩
  all_goals dsimp only [mkRnS_T, mkRnS_am, mkRnS_bg, mkRnS_dd, mkRnS_da, mkRnS_al, mkRnS_hw, mkRnS_aw, mkRnS_nm, mkRnS_tk, mkRnS_tc, mkRnS_tn, mkRnS_rr, mkRnS_lr, mkRnS_fe, mkRnS_lk, mkRnS_ud, mkRnS_gu, mkRnS_cn, mkRnS_cc, mkRnS_co]
  · simpa [pm_ui_a] using h.n
  · simpa [pm_ui_a] using h.sz
  · simpa [pm_ui_a] using h.bd
  · simpa [pm_ui_a] using h.rr
  · intro z; simpa [pm_ui_a] using h.lr z
  · simpa [pm_ui_a] using h.lk
  · simpa [pm_ui_a] using h.ud
  · simpa [pm_ui_a] using h.gu
  · simpa [pm_ui_a] using h.fe
  · intro v hv; simpa [pm_ui_a] using h.hw v hv
  · intro v hv z; simpa [pm_ui_a] using h.aw v hv z
  · intro v hv; simpa [pm_ui_a] using h.nm v hv
  · intro v hv
    by_cases e : v = w
    · subst e; simp [pm_ui_a, fup_s]
    · simp only [fup_n e] at *; simpa [pm_ui_a, e] using h.tk v hv
  · intro v hv z
    by_cases e : v = w
    · subst e; rw [fup_s] at z; exact absurd rfl z
    · rw [fup_n e] at z; simpa [pm_ui_a, fup_n e, e] using h.tc v hv z
  · intro v hv z
    by_cases e : v = w
    · subst e; rw [fup_s] at z; cases z
    · rw [fup_n e] at z; simpa [pm_ui_a, fup_n e, e] using h.tn v hv z
  · simpa [pm_ui_a] using h.cn
  · intro v hv z; simpa [pm_ui_a] using h.cf v hv z
theorem uw_hw {σ : pST} {B : BkS} {sz bd : Nat} {S : RnS} (h : RXw σ B sz bd S) {c x : Nat} (hx : x ≠ 3) : RXw (pm_ui (σ.1) 147 c (nI x), σ.2) B sz bd (mkRnS S.T S.am S.bg S.dd S.da S.al (fup S.hw c x) S.aw S.nm S.tk S.tc S.tn S.rr S.lr S.fe S.lk S.ud S.gu S.cn S.cc S.co) := by
  refine ⟨?_, ?_, ?_, ?_, ?_, ?_, ?_, ?_, ?_, ?_, ?_, ?_, ?_, ?_, ?_, ?_, ?_⟩
  all_goals dsimp only [mkRnS_T, mkRnS_am, mkRnS_bg, mkRnS_dd, mkRnS_da, mkRnS_al, mkRnS_hw, mkRnS_aw, mkRnS_nm, mkRnS_tk, mkRnS_tc, mkRnS_tn, mkRnS_rr, mkRnS_lr, mkRnS_fe, mkRnS_lk, mkRnS_ud, mkRnS_gu, mkRnS_cn, mkRnS_cc, mkRnS_co]
  · simpa [pm_ui_a] using h.n
  · simpa [pm_ui_a] using h.sz
  · simpa [pm_ui_a] using h.bd
  · simpa [pm_ui_a] using h.rr
  · intro z; simpa [pm_ui_a] using h.lr z
  · simpa [pm_ui_a] using h.lk
  · simpa [pm_ui_a] using h.ud
  · simpa [pm_ui_a] using h.gu
  · simpa [pm_ui_a] using h.fe
  · intro v hv
    by_cases e : v = c
    · subst e; simp [pm_ui_a, fup_s]
    · simp only [fup_n e] at *; simpa [pm_ui_a, e] using h.hw v hv
  · intro v hv z
    by_cases e : v = c
    · subst e; rw [fup_s] at z; exact absurd z hx
    · rw [fup_n e] at z; simpa [pm_ui_a, fup_n e, e] using h.aw v hv z
  · intro v hv; simpa [pm_ui_a] using h.nm v hv
  · intro v hv; simpa [pm_ui_a] using h.tk v hv
  · intro v hv z; simpa [pm_ui_a] using h.tc v hv z
  · intro v hv z; simpa [pm_ui_a] using h.tn v hv z
  · simpa [pm_ui_a] using h.cn
  · intro v hv z; simpa [pm_ui_a] using h.cf v hv z
theorem uw_wait {σ : pST} {B : BkS} {sz bd : Nat} {S : RnS} (h : RXw σ B sz bd S) {c j : Nat} : RXw (pm_ui (pm_ui (σ.1) 147 c (nI 3)) 148 c (nI j), σ.2) B sz bd (mkRnS S.T S.am S.bg S.dd S.da S.al (fup S.hw c 3) (fup S.aw c j) S.nm S.tk S.tc S.tn S.rr S.lr S.fe S.lk S.ud S.gu S.cn S.cc S.co) := by
  refine ⟨?_, ?_, ?_, ?_, ?_, ?_, ?_, ?_, ?_, ?_, ?_, ?_, ?_, ?_, ?_, ?_, ?_⟩
  all_goals dsimp only [mkRnS_T, mkRnS_am, mkRnS_bg, mkRnS_dd, mkRnS_da, mkRnS_al, mkRnS_hw, mkRnS_aw, mkRnS_nm, mkRnS_tk, mkRnS_tc, mkRnS_tn, mkRnS_rr, mkRnS_lr, mkRnS_fe, mkRnS_lk, mkRnS_ud, mkRnS_gu, mkRnS_cn, mkRnS_cc, mkRnS_co]
  · simpa [pm_ui_a] using h.n
  · simpa [pm_ui_a] using h.sz
  · simpa [pm_ui_a] using h.bd
  · simpa [pm_ui_a] using h.rr
  · intro z; simpa [pm_ui_a] using h.lr z
  · simpa [pm_ui_a] using h.lk
  · simpa [pm_ui_a] using h.ud
  · simpa [pm_ui_a] using h.gu
  · simpa [pm_ui_a] using h.fe
  · intro v hv
    by_cases e : v = c
    · subst e; simp [pm_ui_a, fup_s]
    · simp only [fup_n e] at *; simpa [pm_ui_a, e] using h.hw v hv
  · intro v hv z
    by_cases e : v = c
    · subst e; simp [pm_ui_a, fup_s]
    · rw [fup_n e] at z; simpa [pm_ui_a, fup_n e, e] using h.aw v hv z
  · intro v hv; simpa [pm_ui_a] using h.nm v hv
  · intro v hv; simpa [pm_ui_a] using h.tk v hv
  · intro v hv z; simpa [pm_ui_a] using h.tc v hv z
  · intro v hv z; simpa [pm_ui_a] using h.tn v hv z
  · simpa [pm_ui_a] using h.cn
  · intro v hv z; simpa [pm_ui_a] using h.cf v hv z
theorem uw_gu {σ : pST} {B : BkS} {sz bd : Nat} {S : RnS} (h : RXw σ B sz bd S) {x : Nat} : RXw (pm_ui (σ.1) 8 5 (nI x), σ.2) B sz bd (mkRnS S.T S.am S.bg S.dd S.da S.al S.hw S.aw S.nm S.tk S.tc S.tn S.rr S.lr S.fe S.lk S.ud (x) S.cn S.cc S.co) := by
  refine ⟨?_, ?_, ?_, ?_, ?_, ?_, ?_, ?_, ?_, ?_, ?_, ?_, ?_, ?_, ?_, ?_, ?_⟩
  all_goals dsimp only [mkRnS_T, mkRnS_am, mkRnS_bg, mkRnS_dd, mkRnS_da, mkRnS_al, mkRnS_hw, mkRnS_aw, mkRnS_nm, mkRnS_tk, mkRnS_tc, mkRnS_tn, mkRnS_rr, mkRnS_lr, mkRnS_fe, mkRnS_lk, mkRnS_ud, mkRnS_gu, mkRnS_cn, mkRnS_cc, mkRnS_co]
  · simpa [pm_ui_a] using h.n
  · simpa [pm_ui_a] using h.sz
  · simpa [pm_ui_a] using h.bd
  · simpa [pm_ui_a] using h.rr
  · intro z; simpa [pm_ui_a] using h.lr z
  · simpa [pm_ui_a] using h.lk
  · simpa [pm_ui_a] using h.ud
  · simp [pm_ui_a]
  · simpa [pm_ui_a] using h.fe
  · intro v hv; simpa [pm_ui_a] using h.hw v hv
  · intro v hv z; simpa [pm_ui_a] using h.aw v hv z
  · intro v hv; simpa [pm_ui_a] using h.nm v hv
  · intro v hv; simpa [pm_ui_a] using h.tk v hv
  · intro v hv z; simpa [pm_ui_a] using h.tc v hv z
  · intro v hv z; simpa [pm_ui_a] using h.tn v hv z
  · simpa [pm_ui_a] using h.cn
  · intro v hv z; simpa [pm_ui_a] using h.cf v hv z
theorem uw_lk {σ : pST} {B : BkS} {sz bd : Nat} {S : RnS} (h : RXw σ B sz bd S) {x : Nat} : RXw (pm_ui (σ.1) 8 3 (nI x), σ.2) B sz bd (mkRnS S.T S.am S.bg S.dd S.da S.al S.hw S.aw S.nm S.tk S.tc S.tn S.rr S.lr S.fe (x) S.ud S.gu S.cn S.cc S.co) := by
  refine ⟨?_, ?_, ?_, ?_, ?_, ?_, ?_, ?_, ?_, ?_, ?_, ?_, ?_, ?_, ?_, ?_, ?_⟩
  all_goals dsimp only [mkRnS_T, mkRnS_am, mkRnS_bg, mkRnS_dd, mkRnS_da, mkRnS_al, mkRnS_hw, mkRnS_aw, mkRnS_nm, mkRnS_tk, mkRnS_tc, mkRnS_tn, mkRnS_rr, mkRnS_lr, mkRnS_fe, mkRnS_lk, mkRnS_ud, mkRnS_gu, mkRnS_cn, mkRnS_cc, mkRnS_co]
  · simpa [pm_ui_a] using h.n
  · simpa [pm_ui_a] using h.sz
  · simpa [pm_ui_a] using h.bd
  · simpa [pm_ui_a] using h.rr
  · intro z; simpa [pm_ui_a] using h.lr z
  · simp [pm_ui_a]
  · simpa [pm_ui_a] using h.ud
  · simpa [pm_ui_a] using h.gu
  · simpa [pm_ui_a] using h.fe
  · intro v hv; simpa [pm_ui_a] using h.hw v hv
  · intro v hv z; simpa [pm_ui_a] using h.aw v hv z
  · intro v hv; simpa [pm_ui_a] using h.nm v hv
  · intro v hv; simpa [pm_ui_a] using h.tk v hv
  · intro v hv z; simpa [pm_ui_a] using h.tc v hv z
  · intro v hv z; simpa [pm_ui_a] using h.tn v hv z
  · simpa [pm_ui_a] using h.cn
  · intro v hv z; simpa [pm_ui_a] using h.cf v hv z
theorem uw_ud {σ : pST} {B : BkS} {sz bd : Nat} {S : RnS} (h : RXw σ B sz bd S) {x : Nat} : RXw (pm_ui (σ.1) 8 4 (nI x), σ.2) B sz bd (mkRnS S.T S.am S.bg S.dd S.da S.al S.hw S.aw S.nm S.tk S.tc S.tn S.rr S.lr S.fe S.lk (x) S.gu S.cn S.cc S.co) := by
  refine ⟨?_, ?_, ?_, ?_, ?_, ?_, ?_, ?_, ?_, ?_, ?_, ?_, ?_, ?_, ?_, ?_, ?_⟩
  all_goals dsimp only [mkRnS_T, mkRnS_am, mkRnS_bg, mkRnS_dd, mkRnS_da, mkRnS_al, mkRnS_hw, mkRnS_aw, mkRnS_nm, mkRnS_tk, mkRnS_tc, mkRnS_tn, mkRnS_rr, mkRnS_lr, mkRnS_fe, mkRnS_lk, mkRnS_ud, mkRnS_gu, mkRnS_cn, mkRnS_cc, mkRnS_co]
  · simpa [pm_ui_a] using h.n
  · simpa [pm_ui_a] using h.sz
  · simpa [pm_ui_a] using h.bd
  · simpa [pm_ui_a] using h.rr
  · intro z; simpa [pm_ui_a] using h.lr z
  · simpa [pm_ui_a] using h.lk
  · simp [pm_ui_a]
  · simpa [pm_ui_a] using h.gu
  · simpa [pm_ui_a] using h.fe
  · intro v hv; simpa [pm_ui_a] using h.hw v hv
  · intro v hv z; simpa [pm_ui_a] using h.aw v hv z
  · intro v hv; simpa [pm_ui_a] using h.nm v hv
  · intro v hv; simpa [pm_ui_a] using h.tk v hv
  · intro v hv z; simpa [pm_ui_a] using h.tc v hv z
  · intro v hv z; simpa [pm_ui_a] using h.tn v hv z
  · simpa [pm_ui_a] using h.cn
  · intro v hv z; simpa [pm_ui_a] using h.cf v hv z
theorem uw_rr {σ : pST} {B : BkS} {sz bd : Nat} {S : RnS} (h : RXw σ B sz bd S) {x : Nat} : RXw (pm_ui (σ.1) 8 9 (nI x), σ.2) B sz bd (mkRnS S.T S.am S.bg S.dd S.da S.al S.hw S.aw S.nm S.tk S.tc S.tn (x) S.lr S.fe S.lk S.ud S.gu S.cn S.cc S.co) := by
  refine ⟨?_, ?_, ?_, ?_, ?_, ?_, ?_, ?_, ?_, ?_, ?_, ?_, ?_, ?_, ?_, ?_, ?_⟩
  all_goals dsimp only [mkRnS_T, mkRnS_am, mkRnS_bg, mkRnS_dd, mkRnS_da, mkRnS_al, mkRnS_hw, mkRnS_aw, mkRnS_nm, mkRnS_tk, mkRnS_tc, mkRnS_tn, mkRnS_rr, mkRnS_lr, mkRnS_fe, mkRnS_lk, mkRnS_ud, mkRnS_gu, mkRnS_cn, mkRnS_cc, mkRnS_co]
  · simpa [pm_ui_a] using h.n
  · simpa [pm_ui_a] using h.sz
  · simpa [pm_ui_a] using h.bd
  · simp [pm_ui_a]
  · intro z; simpa [pm_ui_a] using h.lr z
  · simpa [pm_ui_a] using h.lk
  · simpa [pm_ui_a] using h.ud
  · simpa [pm_ui_a] using h.gu
  · simpa [pm_ui_a] using h.fe
  · intro v hv; simpa [pm_ui_a] using h.hw v hv
  · intro v hv z; simpa [pm_ui_a] using h.aw v hv z
  · intro v hv; simpa [pm_ui_a] using h.nm v hv
  · intro v hv; simpa [pm_ui_a] using h.tk v hv
  · intro v hv z; simpa [pm_ui_a] using h.tc v hv z
  · intro v hv z; simpa [pm_ui_a] using h.tn v hv z
  · simpa [pm_ui_a] using h.cn
  · intro v hv z; simpa [pm_ui_a] using h.cf v hv z
theorem uw_lr {σ : pST} {B : BkS} {sz bd : Nat} {S : RnS} (h : RXw σ B sz bd S) {x : Nat} : RXw (pm_ui (σ.1) 8 10 (nI x), σ.2) B sz bd (mkRnS S.T S.am S.bg S.dd S.da S.al S.hw S.aw S.nm S.tk S.tc S.tn S.rr (x) S.fe S.lk S.ud S.gu S.cn S.cc S.co) := by
  refine ⟨?_, ?_, ?_, ?_, ?_, ?_, ?_, ?_, ?_, ?_, ?_, ?_, ?_, ?_, ?_, ?_, ?_⟩
  all_goals dsimp only [mkRnS_T, mkRnS_am, mkRnS_bg, mkRnS_dd, mkRnS_da, mkRnS_al, mkRnS_hw, mkRnS_aw, mkRnS_nm, mkRnS_tk, mkRnS_tc, mkRnS_tn, mkRnS_rr, mkRnS_lr, mkRnS_fe, mkRnS_lk, mkRnS_ud, mkRnS_gu, mkRnS_cn, mkRnS_cc, mkRnS_co]
  · simpa [pm_ui_a] using h.n
  · simpa [pm_ui_a] using h.sz
  · simpa [pm_ui_a] using h.bd
  · simpa [pm_ui_a] using h.rr
  · intro z; simp [pm_ui_a]
  · simpa [pm_ui_a] using h.lk
  · simpa [pm_ui_a] using h.ud
  · simpa [pm_ui_a] using h.gu
  · simpa [pm_ui_a] using h.fe
  · intro v hv; simpa [pm_ui_a] using h.hw v hv
  · intro v hv z; simpa [pm_ui_a] using h.aw v hv z
  · intro v hv; simpa [pm_ui_a] using h.nm v hv
  · intro v hv; simpa [pm_ui_a] using h.tk v hv
  · intro v hv z; simpa [pm_ui_a] using h.tc v hv z
  · intro v hv z; simpa [pm_ui_a] using h.tn v hv z
  · simpa [pm_ui_a] using h.cn
  · intro v hv z; simpa [pm_ui_a] using h.cf v hv z
theorem uw_nm {σ : pST} {B : BkS} {sz bd : Nat} {S : RnS} (h : RXw σ B sz bd S) {c x : Nat} : RXw (pm_ui (σ.1) 149 c (nI x), σ.2) B sz bd (mkRnS S.T S.am S.bg S.dd S.da S.al S.hw S.aw (fup S.nm c x) S.tk S.tc S.tn S.rr S.lr S.fe S.lk S.ud S.gu S.cn S.cc S.co) := by
  refine ⟨?_, ?_, ?_, ?_, ?_, ?_, ?_, ?_, ?_, ?_, ?_, ?_, ?_, ?_, ?_, ?_, ?_⟩
  all_goals dsimp only [mkRnS_T, mkRnS_am, mkRnS_bg, mkRnS_dd, mkRnS_da, mkRnS_al, mkRnS_hw, mkRnS_aw, mkRnS_nm, mkRnS_tk, mkRnS_tc, mkRnS_tn, mkRnS_rr, mkRnS_lr, mkRnS_fe, mkRnS_lk, mkRnS_ud, mkRnS_gu, mkRnS_cn, mkRnS_cc, mkRnS_co]
  · simpa [pm_ui_a] using h.n
  · simpa [pm_ui_a] using h.sz
  · simpa [pm_ui_a] using h.bd
  · simpa [pm_ui_a] using h.rr
  · intro z; simpa [pm_ui_a] using h.lr z
  · simpa [pm_ui_a] using h.lk
  · simpa [pm_ui_a] using h.ud
  · simpa [pm_ui_a] using h.gu
  · simpa [pm_ui_a] using h.fe
  · intro v hv; simpa [pm_ui_a] using h.hw v hv
  · intro v hv z; simpa [pm_ui_a] using h.aw v hv z
  · intro v hv
    by_cases e : v = c
    · subst e; simp [pm_ui_a, fup_s]
    · simp only [fup_n e] at *; simpa [pm_ui_a, e] using h.nm v hv
  · intro v hv; simpa [pm_ui_a] using h.tk v hv
  · intro v hv z; simpa [pm_ui_a] using h.tc v hv z
  · intro v hv z; simpa [pm_ui_a] using h.tn v hv z
  · simpa [pm_ui_a] using h.cn
  · intro v hv z; simpa [pm_ui_a] using h.cf v hv z
theorem uw_look {σ : pST} {B : BkS} {sz bd : Nat} {S : RnS} (h : RXw σ B sz bd S) {w c x : Nat} (hx : S.nm c = x) : RXw (pm_ui (pm_ui (pm_ui (σ.1) 150 w (nI 2)) 151 w (nI c)) 152 w (nI x), σ.2) B sz bd (mkRnS S.T S.am S.bg S.dd S.da S.al S.hw S.aw S.nm (fup S.tk w 2) (fup S.tc w c) (fup S.tn w (S.nm c)) S.rr S.lr S.fe S.lk S.ud S.gu S.cn S.cc S.co) := by
  refine ⟨?_, ?_, ?_, ?_, ?_, ?_, ?_, ?_, ?_, ?_, ?_, ?_, ?_, ?_, ?_, ?_, ?_⟩
  all_goals dsimp only [mkRnS_T, mkRnS_am, mkRnS_bg, mkRnS_dd, mkRnS_da, mkRnS_al, mkRnS_hw, mkRnS_aw, mkRnS_nm, mkRnS_tk, mkRnS_tc, mkRnS_tn, mkRnS_rr, mkRnS_lr, mkRnS_fe, mkRnS_lk, mkRnS_ud, mkRnS_gu, mkRnS_cn, mkRnS_cc, mkRnS_co]
  · simpa [pm_ui_a] using h.n
  · simpa [pm_ui_a] using h.sz
  · simpa [pm_ui_a] using h.bd
  · simpa [pm_ui_a] using h.rr
  · intro z; simpa [pm_ui_a] using h.lr z
  · simpa [pm_ui_a] using h.lk
  · simpa [pm_ui_a] using h.ud
  · simpa [pm_ui_a] using h.gu
  · simpa [pm_ui_a] using h.fe
  · intro v hv; simpa [pm_ui_a] using h.hw v hv
  · intro v hv z; simpa [pm_ui_a] using h.aw v hv z
  · intro v hv; simpa [pm_ui_a] using h.nm v hv
  · intro v hv
    by_cases e : v = w
    · subst e; simp [pm_ui_a, fup_s]
    · simp only [fup_n e] at *; simpa [pm_ui_a, e] using h.tk v hv
  · intro v hv z
    by_cases e : v = w
    · subst e; simp [pm_ui_a, fup_s]
    · rw [fup_n e] at z; simpa [pm_ui_a, fup_n e, e] using h.tc v hv z
  · intro v hv z
    by_cases e : v = w
    · subst e; simp [pm_ui_a, fup_s, hx]
    · rw [fup_n e] at z; simpa [pm_ui_a, fup_n e, e] using h.tn v hv z
  · simpa [pm_ui_a] using h.cn
  · intro v hv z; simpa [pm_ui_a] using h.cf v hv z
theorem uw_run {σ : pST} {B : BkS} {sz bd : Nat} {S : RnS} (h : RXw σ B sz bd S) {w c : Nat} : RXw (pm_ui (pm_ui (σ.1) 150 w (nI 1)) 151 w (nI c), σ.2) B sz bd (mkRnS S.T S.am S.bg S.dd S.da S.al S.hw S.aw S.nm (fup S.tk w 1) (fup S.tc w c) S.tn S.rr S.lr S.fe S.lk S.ud S.gu S.cn S.cc S.co) := by
  refine ⟨?_, ?_, ?_, ?_, ?_, ?_, ?_, ?_, ?_, ?_, ?_, ?_, ?_, ?_, ?_, ?_, ?_⟩
  all_goals dsimp only [mkRnS_T, mkRnS_am, mkRnS_bg, mkRnS_dd, mkRnS_da, mkRnS_al, mkRnS_hw, mkRnS_aw, mkRnS_nm, mkRnS_tk, mkRnS_tc, mkRnS_tn, mkRnS_rr, mkRnS_lr, mkRnS_fe, mkRnS_lk, mkRnS_ud, mkRnS_gu, mkRnS_cn, mkRnS_cc, mkRnS_co]
  · simpa [pm_ui_a] using h.n
  · simpa [pm_ui_a] using h.sz
  · simpa [pm_ui_a] using h.bd
  · simpa [pm_ui_a] using h.rr
  · intro z; simpa [pm_ui_a] using h.lr z
  · simpa [pm_ui_a] using h.lk
  · simpa [pm_ui_a] using h.ud
  · simpa [pm_ui_a] using h.gu
  · simpa [pm_ui_a] using h.fe
  · intro v hv; simpa [pm_ui_a] using h.hw v hv
  · intro v hv z; simpa [pm_ui_a] using h.aw v hv z
  · intro v hv; simpa [pm_ui_a] using h.nm v hv
  · intro v hv
    by_cases e : v = w
    · subst e; simp [pm_ui_a, fup_s]
    · simp only [fup_n e] at *; simpa [pm_ui_a, e] using h.tk v hv
  · intro v hv z
    by_cases e : v = w
    · subst e; simp [pm_ui_a, fup_s]
    · rw [fup_n e] at z; simpa [pm_ui_a, fup_n e, e] using h.tc v hv z
  · intro v hv z
    by_cases e : v = w
    · subst e; rw [fup_s] at z; cases z
    · rw [fup_n e] at z; simpa [pm_ui_a, fup_n e, e] using h.tn v hv z
  · simpa [pm_ui_a] using h.cn
  · intro v hv z; simpa [pm_ui_a] using h.cf v hv z
theorem uw_fe {σ : pST} {B : BkS} {sz bd : Nat} {S : RnS} (h : RXw σ B sz bd S) {l : Nat} {b : Bool} {x : Int32} (hx : x = cond b 1 0) (hl : b = false → S.fe = false ∧ l = S.lr) : RXw (pm_ui (σ.1) 8 6 (x), σ.2) B sz bd (mkRnS S.T S.am S.bg S.dd S.da S.al S.hw S.aw S.nm S.tk S.tc S.tn S.rr (l) (b) S.lk S.ud S.gu S.cn S.cc S.co) := by
  refine ⟨?_, ?_, ?_, ?_, ?_, ?_, ?_, ?_, ?_, ?_, ?_, ?_, ?_, ?_, ?_, ?_, ?_⟩
  all_goals dsimp only [mkRnS_T, mkRnS_am, mkRnS_bg, mkRnS_dd, mkRnS_da, mkRnS_al, mkRnS_hw, mkRnS_aw, mkRnS_nm, mkRnS_tk, mkRnS_tc, mkRnS_tn, mkRnS_rr, mkRnS_lr, mkRnS_fe, mkRnS_lk, mkRnS_ud, mkRnS_gu, mkRnS_cn, mkRnS_cc, mkRnS_co]
  · simpa [pm_ui_a] using h.n
  · simpa [pm_ui_a] using h.sz
  · simpa [pm_ui_a] using h.bd
  · simpa [pm_ui_a] using h.rr
  · intro z; obtain ⟨z1, z2⟩ := hl z; rw [z2]; simpa [pm_ui_a] using h.lr z1
  · simpa [pm_ui_a] using h.lk
  · simpa [pm_ui_a] using h.ud
  · simpa [pm_ui_a] using h.gu
  · simpa [pm_ui_a] using hx
  · intro v hv; simpa [pm_ui_a] using h.hw v hv
  · intro v hv z; simpa [pm_ui_a] using h.aw v hv z
  · intro v hv; simpa [pm_ui_a] using h.nm v hv
  · intro v hv; simpa [pm_ui_a] using h.tk v hv
  · intro v hv z; simpa [pm_ui_a] using h.tc v hv z
  · intro v hv z; simpa [pm_ui_a] using h.tn v hv z
  · simpa [pm_ui_a] using h.cn
  · intro v hv z; simpa [pm_ui_a] using h.cf v hv z
theorem uw_note {σ : pST} {B : BkS} {sz bd : Nat} {S : RnS} (h : RXw σ B sz bd S) {c : Nat} {oo : Option Nat} : RXw (pm_ui (if S.cn < 200 then pm_ui (pm_ui (σ.1) 145 S.cn (nI c)) 146 S.cn (oI oo) else σ.1) 144 0 (nI (S.cn + 1)), σ.2) B sz bd (noteS S c oo) := by
  have key : ∀ x y, x ≠ 145 → x ≠ 146 → x ≠ 144 → (pm_ui (if S.cn < 200 then pm_ui (pm_ui (σ.1) 145 S.cn (nI c)) 146 S.cn (oI oo) else σ.1) 144 0 (nI (S.cn + 1))) x y = σ.1 x y := by
    intro x y h1 h2 h3
    rw [pm_ui_a, if_neg (by omega)]
    split
    · rw [pm_ui_a, if_neg (by omega), pm_ui_a, if_neg (by omega)]
    · rfl
  refine ⟨?_, ?_, ?_, ?_, ?_, ?_, ?_, ?_, ?_, ?_, ?_, ?_, ?_, ?_, ?_, ?_, ?_⟩
  all_goals dsimp only [noteS, mkRnS_T, mkRnS_am, mkRnS_bg, mkRnS_dd, mkRnS_da, mkRnS_al, mkRnS_hw, mkRnS_aw, mkRnS_nm, mkRnS_tk, mkRnS_tc, mkRnS_tn, mkRnS_rr, mkRnS_lr, mkRnS_fe, mkRnS_lk, mkRnS_ud, mkRnS_gu, mkRnS_cn, mkRnS_cc, mkRnS_co]
  · rw [key _ _ (by omega) (by omega) (by omega)]; exact h.n
  · rw [key _ _ (by omega) (by omega) (by omega)]; exact h.sz
  · rw [key _ _ (by omega) (by omega) (by omega)]; exact h.bd
  · rw [key _ _ (by omega) (by omega) (by omega)]; exact h.rr
  · rw [key _ _ (by omega) (by omega) (by omega)]; exact h.lr
  · rw [key _ _ (by omega) (by omega) (by omega)]; exact h.lk
  · rw [key _ _ (by omega) (by omega) (by omega)]; exact h.ud
  · rw [key _ _ (by omega) (by omega) (by omega)]; exact h.gu
  · rw [key _ _ (by omega) (by omega) (by omega)]; exact h.fe
  · intro v hv; rw [key _ _ (by omega) (by omega) (by omega)]; exact h.hw v hv
  · intro v hv; rw [key _ _ (by omega) (by omega) (by omega)]; exact h.aw v hv
  · intro v hv; rw [key _ _ (by omega) (by omega) (by omega)]; exact h.nm v hv
  · intro v hv; rw [key _ _ (by omega) (by omega) (by omega)]; exact h.tk v hv
  · intro v hv; rw [key _ _ (by omega) (by omega) (by omega)]; exact h.tc v hv
  · intro v hv; rw [key _ _ (by omega) (by omega) (by omega)]; exact h.tn v hv
  · rw [pm_ui_a, if_pos ⟨rfl, rfl⟩]
  · intro v hv z
    have key2 : ∀ (I : Nat → Nat → Int32) (x y : Nat) (u : Int32), x ≠ 144 → pm_ui I 144 0 u x y = I x y := fun I x y u hx => by rw [pm_ui_a, if_neg (fun z => hx z.1)]
    rw [key2 _ 145 v _ (by omega), key2 _ 146 v _ (by omega)]
    by_cases e : v = S.cn
    · subst e
      rw [if_pos hv, fup_s, fup_s]
      simp [pm_ui_a]
    · rw [fup_n e, fup_n e]
      have := h.cf v hv (by omega)
      split
      · simpa [pm_ui_a, e] using this
      · exact this
theorem uw_wake {σ : pST} {B : BkS} {sz bd : Nat} {S : RnS} (h : RXw σ B sz bd S) {c : Nat} : RXw (wkI σ.1 S c B.n, σ.2) B sz bd (wakeS S c B.n) := by
  have key : ∀ x y, x ≠ 147 → ¬ (x = 8 ∧ y = 9) → wkI σ.1 S c B.n x y = σ.1 x y := by
    intro x y h1 h2
    unfold wkI
    rw [if_neg (fun z => h1 z.1), if_neg h2]
  refine ⟨?_, ?_, ?_, ?_, ?_, ?_, ?_, ?_, ?_, ?_, ?_, ?_, ?_, ?_, ?_, ?_, ?_⟩
  all_goals dsimp only [wakeS, mkRnS_T, mkRnS_am, mkRnS_bg, mkRnS_dd, mkRnS_da, mkRnS_al, mkRnS_hw, mkRnS_aw, mkRnS_nm, mkRnS_tk, mkRnS_tc, mkRnS_tn, mkRnS_rr, mkRnS_lr, mkRnS_fe, mkRnS_lk, mkRnS_ud, mkRnS_gu, mkRnS_cn, mkRnS_cc, mkRnS_co]
  · rw [key _ _ (by omega) (by omega)]; exact h.n
  · rw [key _ _ (by omega) (by omega)]; exact h.sz
  · rw [key _ _ (by omega) (by omega)]; exact h.bd
  · unfold wkI
    rw [if_neg (by omega), if_pos ⟨rfl, rfl⟩]
  · rw [key _ _ (by omega) (by omega)]; exact h.lr
  · rw [key _ _ (by omega) (by omega)]; exact h.lk
  · rw [key _ _ (by omega) (by omega)]; exact h.ud
  · rw [key _ _ (by omega) (by omega)]; exact h.gu
  · rw [key _ _ (by omega) (by omega)]; exact h.fe
  · intro v hv
    unfold wkI
    by_cases e : v < B.n ∧ wokeS S c v
    · rw [if_pos ⟨rfl, e⟩, if_pos e]
    · rw [if_neg (fun z => e z.2), if_neg (by omega), if_neg e]
      exact h.hw v hv
  · intro v hv z
    rw [key _ _ (by omega) (by omega)]
    refine h.aw v hv ?_
    split at z
    · cases z
    · exact z
  · intro v hv; rw [key _ _ (by omega) (by omega)]; exact h.nm v hv
  · intro v hv; rw [key _ _ (by omega) (by omega)]; exact h.tk v hv
  · intro v hv; rw [key _ _ (by omega) (by omega)]; exact h.tc v hv
  · intro v hv; rw [key _ _ (by omega) (by omega)]; exact h.tn v hv
  · rw [key _ _ (by omega) (by omega)]; exact h.cn
  · intro v hv; rw [key _ _ (by omega) (by omega), key _ _ (by omega) (by omega)]; exact h.cf v hv
theorem uw_c {σ ρ : pST} {B : BkS} {sz bd : Nat} {S : RnS} (h : RXw σ B sz bd S) (h8 : ρ.1 8 = σ.1 8) (h9 : ρ.1 9 = σ.1 9) (hx : ∀ x, 144 ≤ x → x ≤ 152 → ρ.1 x = σ.1 x) : RXw ρ B sz bd S := by
  have e144 := hx 144 (by omega) (by omega)
  have e145 := hx 145 (by omega) (by omega)
  have e146 := hx 146 (by omega) (by omega)
  have e147 := hx 147 (by omega) (by omega)
  have e148 := hx 148 (by omega) (by omega)
  have e149 := hx 149 (by omega) (by omega)
  have e150 := hx 150 (by omega) (by omega)
  have e151 := hx 151 (by omega) (by omega)
  have e152 := hx 152 (by omega) (by omega)
  unfold RXw
  rw [h8, h9, e144, e145, e146, e147, e148, e149, e150, e151, e152]
  exact h
/-! the block, the table, the attempts -/
theorem bk_c {σ ρ : pST} {B : BkS} (h : RXbk σ B) (hx : ∀ x, 2 ≤ x → x ≤ 7 → ρ.1 x = σ.1 x ∧ ρ.2 x = σ.2 x) : RXbk ρ B := by
  unfold RXbk
  rw [(hx 2 (by omega) (by omega)).1, (hx 3 (by omega) (by omega)).1, (hx 4 (by omega) (by omega)).1, (hx 5 (by omega) (by omega)).1, (hx 6 (by omega) (by omega)).1, (hx 7 (by omega) (by omega)).2]
  exact h
theorem tb_c {σ ρ : pST} {t m : Nat} {T : TbS} (h : RXtb σ t T m) (hx : ∀ x, t + 1 ≤ x → x ≤ t + 4 → ρ.1 x = σ.1 x ∧ ρ.2 x = σ.2 x) : RXtb ρ t T m := by
  unfold RXtb
  rw [(hx (t + 2) (by omega) (by omega)).1, (hx (t + 3) (by omega) (by omega)).1, (hx (t + 4) (by omega) (by omega)).2, (hx (t + 1) (by omega) (by omega)).2]
  exact h
theorem at_c {σ ρ : pST} {a c : Nat} {A : AtS} (h : RXat σ a c A) (hx : ∀ x, a ≤ x → x ≤ a + 7 → ρ.1 x = σ.1 x ∧ ρ.2 x = σ.2 x) : RXat ρ a c A := by
  unfold RXat
  rw [(hx a (by omega) (by omega)).1, (hx (a + 1) (by omega) (by omega)).2, (hx (a + 2) (by omega) (by omega)).2, (hx (a + 3) (by omega) (by omega)).2, (hx (a + 4) (by omega) (by omega)).2, (hx (a + 5) (by omega) (by omega)).1, (hx (a + 6) (by omega) (by omega)).1, (hx (a + 7) (by omega) (by omega)).1]
  exact h
abbrev RXa (σ : pST) (S : RnS) (c : Nat) : Prop := (σ.1 (16 + 8 * c) 0 = nI c) ∧ (σ.1 (16 + 8 * c) 1 = nI (S.bg c)) ∧ (σ.1 (16 + 8 * c) 2 = nI (S.da c)) ∧ (1 ≤ S.bg c → RXat σ (16 + 8 * c) c (S.am c) ∧ σ.1 (16 + 8 * c) 3 = nI (S.dd c))
theorem RXa.s0 {σ : pST} {S : RnS} {c : Nat} (h : RXa σ S c) : σ.1 (16 + 8 * c) 0 = nI c := h.1
theorem RXa.bg {σ : pST} {S : RnS} {c : Nat} (h : RXa σ S c) : σ.1 (16 + 8 * c) 1 = nI (S.bg c) := h.2.1
theorem RXa.da {σ : pST} {S : RnS} {c : Nat} (h : RXa σ S c) : σ.1 (16 + 8 * c) 2 = nI (S.da c) := h.2.2.1
theorem RXa.am {σ : pST} {S : RnS} {c : Nat} (h : RXa σ S c) : 1 ≤ S.bg c → RXat σ (16 + 8 * c) c (S.am c) ∧ σ.1 (16 + 8 * c) 3 = nI (S.dd c) := h.2.2.2
abbrev RXb (σ : pST) (B : BkS) (S : RnS) : Prop := (RXbk σ B) ∧ (RXtb σ 10 S.T 16) ∧ (∀ c, c < 16 → RXa σ S c)
theorem RXb.bk {σ : pST} {B : BkS} {S : RnS} (h : RXb σ B S) : RXbk σ B := h.1
theorem RXb.tb {σ : pST} {B : BkS} {S : RnS} (h : RXb σ B S) : RXtb σ 10 S.T 16 := h.2.1
theorem RXb.a {σ : pST} {B : BkS} {S : RnS} (h : RXb σ B S) : ∀ c, c < 16 → RXa σ S c := h.2.2
theorem a_c {σ ρ : pST} {S : RnS} {c : Nat} (h : RXa σ S c) (hx : ∀ x, 16 + 8 * c ≤ x → x ≤ 16 + 8 * c + 7 → ρ.1 x = σ.1 x ∧ ρ.2 x = σ.2 x) : RXa ρ S c := by
  obtain ⟨h1, h2, h3, h4⟩ := h
  have e := (hx (16 + 8 * c) (by omega) (by omega)).1
  exact ⟨by rw [e]; exact h1, by rw [e]; exact h2, by rw [e]; exact h3, fun z => ⟨at_c (h4 z).1 hx, by rw [e]; exact (h4 z).2⟩⟩
theorem b_c {σ ρ : pST} {B : BkS} {S : RnS} (h : RXb σ B S) (hx : ∀ x, 2 ≤ x → x ≤ 143 → x ≠ 8 → x ≠ 9 → ρ.1 x = σ.1 x ∧ ρ.2 x = σ.2 x) : RXb ρ B S :=
  ⟨bk_c h.bk fun x h1 h2 => hx x (by omega) (by omega) (by omega) (by omega), tb_c h.tb fun x h1 h2 => hx x (by omega) (by omega) (by omega) (by omega), fun c hc => a_c (h.a c hc) fun x h1 h2 => hx x (by omega) (by omega) (by omega) (by omega)⟩
abbrev FrS (σ ρ : pST) : Prop := (∀ x, x ≤ 7 ∨ 153 ≤ x → ρ.1 x = σ.1 x ∧ ρ.2 x = σ.2 x) ∧ ρ.1 8 2 = σ.1 8 2
theorem FrS.trans {σ ρ τ : pST} (h1 : FrS σ ρ) (h2 : FrS ρ τ) : FrS σ τ := ⟨fun x hx => ⟨(h2.1 x hx).1.trans (h1.1 x hx).1, (h2.1 x hx).2.trans (h1.1 x hx).2⟩, h2.2.trans h1.2⟩
abbrev RX (σ : pST) (B : BkS) (sz bd : Nat) (S : RnS) : Prop := RXb σ B S ∧ RXw σ B sz bd S
theorem isA9 {c : Nat} (hc : c < 16) : isA (16 + 8 * c) := shA (b := 9) (Or.inl rfl) hc
theorem isT10 : isT 10 := ⟨rfl, rfl, rfl, rfl, rfl⟩
/-- a change of the workers' own cells alone -/
theorem b_w {σ : pST} {B : BkS} {S : RnS} {I : Nat → Nat → Int32} (h : RXb σ B S) (hx : ∀ x, 2 ≤ x → x ≤ 143 → x ≠ 8 → x ≠ 9 → I x = σ.1 x) : RXb (I, σ.2) B S := b_c h fun x h1 h2 h3 h4 => ⟨hx x h1 h2 h3 h4, rfl⟩
