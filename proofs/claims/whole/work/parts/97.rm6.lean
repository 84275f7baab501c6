/-! ===== the reference's workers keep to the plain machine ===== -/
abbrev RMw (σ : pST) (bd : Nat) (S : RnS) : Prop := (σ.1 0 2 = nI bd) ∧ (σ.1 0 37 = nI S.rr) ∧ (σ.1 0 38 = nI S.lr) ∧ (σ.1 0 42 = nI S.lk) ∧ (σ.1 0 43 = nI S.ud) ∧ (σ.1 0 44 = nI S.gu) ∧ (σ.1 0 41 = cond S.fe 1 0) ∧ (σ.1 0 22 = nI S.al) ∧ (∀ c, c < 16 → σ.1 25 c = nI (S.hw c)) ∧ (∀ c, c < 16 → S.hw c = 3 → σ.1 27 c = nI (S.aw c)) ∧ (∀ c, c < 16 → σ.1 26 c = nI (S.nm c)) ∧ (∀ w, w < 4 → σ.1 28 w = nI (S.tk w)) ∧ (∀ w, w < 4 → ¬ S.tk w = 0 → σ.1 29 w = nI (S.tc w)) ∧ (∀ w, w < 4 → S.tk w = 2 → σ.1 30 w = nI (S.tn w)) ∧ (σ.1 0 47 = nI S.cn) ∧ (∀ i, i < 200 → i < S.cn → σ.1 32 i = nI (S.cc i) ∧ σ.1 33 i = oI (S.co i))
theorem RMw.bd {σ : pST} {bd : Nat} {S : RnS} (h : RMw σ bd S) : σ.1 0 2 = nI bd := h.1
theorem RMw.rr {σ : pST} {bd : Nat} {S : RnS} (h : RMw σ bd S) : σ.1 0 37 = nI S.rr := h.2.1
theorem RMw.lr {σ : pST} {bd : Nat} {S : RnS} (h : RMw σ bd S) : σ.1 0 38 = nI S.lr := h.2.2.1
theorem RMw.lk {σ : pST} {bd : Nat} {S : RnS} (h : RMw σ bd S) : σ.1 0 42 = nI S.lk := h.2.2.2.1
theorem RMw.ud {σ : pST} {bd : Nat} {S : RnS} (h : RMw σ bd S) : σ.1 0 43 = nI S.ud := h.2.2.2.2.1
theorem RMw.gu {σ : pST} {bd : Nat} {S : RnS} (h : RMw σ bd S) : σ.1 0 44 = nI S.gu := h.2.2.2.2.2.1
theorem RMw.fe {σ : pST} {bd : Nat} {S : RnS} (h : RMw σ bd S) : σ.1 0 41 = cond S.fe 1 0 := h.2.2.2.2.2.2.1
theorem RMw.al {σ : pST} {bd : Nat} {S : RnS} (h : RMw σ bd S) : σ.1 0 22 = nI S.al := h.2.2.2.2.2.2.2.1
theorem RMw.hw {σ : pST} {bd : Nat} {S : RnS} (h : RMw σ bd S) : ∀ c, c < 16 → σ.1 25 c = nI (S.hw c) := h.2.2.2.2.2.2.2.2.1
theorem RMw.aw {σ : pST} {bd : Nat} {S : RnS} (h : RMw σ bd S) : ∀ c, c < 16 → S.hw c = 3 → σ.1 27 c = nI (S.aw c) := h.2.2.2.2.2.2.2.2.2.1
theorem RMw.nm {σ : pST} {bd : Nat} {S : RnS} (h : RMw σ bd S) : ∀ c, c < 16 → σ.1 26 c = nI (S.nm c) := h.2.2.2.2.2.2.2.2.2.2.1
theorem RMw.tk {σ : pST} {bd : Nat} {S : RnS} (h : RMw σ bd S) : ∀ w, w < 4 → σ.1 28 w = nI (S.tk w) := h.2.2.2.2.2.2.2.2.2.2.2.1
theorem RMw.tc {σ : pST} {bd : Nat} {S : RnS} (h : RMw σ bd S) : ∀ w, w < 4 → ¬ S.tk w = 0 → σ.1 29 w = nI (S.tc w) := h.2.2.2.2.2.2.2.2.2.2.2.2.1
theorem RMw.tn {σ : pST} {bd : Nat} {S : RnS} (h : RMw σ bd S) : ∀ w, w < 4 → S.tk w = 2 → σ.1 30 w = nI (S.tn w) := h.2.2.2.2.2.2.2.2.2.2.2.2.2.1
theorem RMw.cn {σ : pST} {bd : Nat} {S : RnS} (h : RMw σ bd S) : σ.1 0 47 = nI S.cn := h.2.2.2.2.2.2.2.2.2.2.2.2.2.2.1
theorem RMw.cf {σ : pST} {bd : Nat} {S : RnS} (h : RMw σ bd S) : ∀ i, i < 200 → i < S.cn → σ.1 32 i = nI (S.cc i) ∧ σ.1 33 i = oI (S.co i) := h.2.2.2.2.2.2.2.2.2.2.2.2.2.2.2
theorem um_tk0 {σ : pST} {bd : Nat} {S : RnS} (h : RMw σ bd S) {w : Nat} : RMw (pm_ui (σ.1) 28 w (nI 0), σ.2) bd (mkRnS S.T S.am S.bg S.dd S.da S.al S.hw S.aw S.nm (fup S.tk w 0) S.tc S.tn S.rr S.lr S.fe S.lk S.ud S.gu S.cn S.cc S.co) := by
  refine ⟨?_, ?_, ?_, ?_, ?_, ?_, ?_, ?_, ?_, ?_, ?_, ?_, ?_, ?_, ?_, ?_⟩
  all_goals dsimp only [mkRnS_T, mkRnS_am, mkRnS_bg, mkRnS_dd, mkRnS_da, mkRnS_al, mkRnS_hw, mkRnS_aw, mkRnS_nm, mkRnS_tk, mkRnS_tc, mkRnS_tn, mkRnS_rr, mkRnS_lr, mkRnS_fe, mkRnS_lk, mkRnS_ud, mkRnS_gu, mkRnS_cn, mkRnS_cc, mkRnS_co]
  · simpa [pm_ui_a] using h.bd
  · simpa [pm_ui_a] using h.rr
  · simpa [pm_ui_a] using h.lr
  · simpa [pm_ui_a] using h.lk
  · simpa [pm_ui_a] using h.ud
  · simpa [pm_ui_a] using h.gu
  · simpa [pm_ui_a] using h.fe
  · simpa [pm_ui_a] using h.al
  · intro v hv; simpa [pm_ui_a] using h.hw v hv
  · intro v hv z; simpa [pm_ui_a] using h.aw v hv z
  · intro v hv; simpa [pm_ui_a] using h.nm v hv
  · intro v hv
    by_cases e : v = w
    · subst e; simp [pm_ui_a, fup_s]
    · simp only [fup_n e] at *; simpa [pm_ui_a, e] using h.tk v hv
  · intro v hv z
    by_cases e : v = w
    · subst e; rw [fup_s] at z; exact absurd rfl z
    · rw [fup_n e] at z; simpa [pm_ui_a, fup_n e, e] using h.tc v hv z
  · intro v hv z
    by_cases e : v = w
    · subst e; rw [fup_s] at z; cases z
    · rw [fup_n e] at z; simpa [pm_ui_a, fup_n e, e] using h.tn v hv z
  · simpa [pm_ui_a] using h.cn
  · intro v hv z; simpa [pm_ui_a] using h.cf v hv z
theorem um_hw {σ : pST} {bd : Nat} {S : RnS} (h : RMw σ bd S) {c x : Nat} (hx : x ≠ 3) : RMw (pm_ui (σ.1) 25 c (nI x), σ.2) bd (mkRnS S.T S.am S.bg S.dd S.da S.al (fup S.hw c x) S.aw S.nm S.tk S.tc S.tn S.rr S.lr S.fe S.lk S.ud S.gu S.cn S.cc S.co) := by
  refine ⟨?_, ?_, ?_, ?_, ?_, ?_, ?_, ?_, ?_, ?_, ?_, ?_, ?_, ?_, ?_, ?_⟩
  all_goals dsimp only [mkRnS_T, mkRnS_am, mkRnS_bg, mkRnS_dd, mkRnS_da, mkRnS_al, mkRnS_hw, mkRnS_aw, mkRnS_nm, mkRnS_tk, mkRnS_tc, mkRnS_tn, mkRnS_rr, mkRnS_lr, mkRnS_fe, mkRnS_lk, mkRnS_ud, mkRnS_gu, mkRnS_cn, mkRnS_cc, mkRnS_co]
  · simpa [pm_ui_a] using h.bd
  · simpa [pm_ui_a] using h.rr
  · simpa [pm_ui_a] using h.lr
  · simpa [pm_ui_a] using h.lk
  · simpa [pm_ui_a] using h.ud
  · simpa [pm_ui_a] using h.gu
  · simpa [pm_ui_a] using h.fe
  · simpa [pm_ui_a] using h.al
  · intro v hv
    by_cases e : v = c
    · subst e; simp [pm_ui_a, fup_s]
    · simp only [fup_n e] at *; simpa [pm_ui_a, e] using h.hw v hv
  · intro v hv z
    by_cases e : v = c
    · subst e; rw [fup_s] at z; exact absurd z hx
    · rw [fup_n e] at z; simpa [pm_ui_a, fup_n e, e] using h.aw v hv z
  · intro v hv; simpa [pm_ui_a] using h.nm v hv
  · intro v hv; simpa [pm_ui_a] using h.tk v hv
  · intro v hv z; simpa [pm_ui_a] using h.tc v hv z
  · intro v hv z; simpa [pm_ui_a] using h.tn v hv z
  · simpa [pm_ui_a] using h.cn
  · intro v hv z; simpa [pm_ui_a] using h.cf v hv z
theorem um_wait {σ : pST} {bd : Nat} {S : RnS} (h : RMw σ bd S) {c j : Nat} : RMw (pm_ui (pm_ui (σ.1) 25 c (nI 3)) 27 c (nI j), σ.2) bd (mkRnS S.T S.am S.bg S.dd S.da S.al (fup S.hw c 3) (fup S.aw c j) S.nm S.tk S.tc S.tn S.rr S.lr S.fe S.lk S.ud S.gu S.cn S.cc S.co) := by
  refine ⟨?_, ?_, ?_, ?_, ?_, ?_, ?_, ?_, ?_, ?_, ?_, ?_, ?_, ?_, ?_, ?_⟩
  all_goals dsimp only [mkRnS_T, mkRnS_am, mkRnS_bg, mkRnS_dd, mkRnS_da, mkRnS_al, mkRnS_hw, mkRnS_aw, mkRnS_nm, mkRnS_tk, mkRnS_tc, mkRnS_tn, mkRnS_rr, mkRnS_lr, mkRnS_fe, mkRnS_lk, mkRnS_ud, mkRnS_gu, mkRnS_cn, mkRnS_cc, mkRnS_co]
  · simpa [pm_ui_a] using h.bd
  · simpa [pm_ui_a] using h.rr
  · simpa [pm_ui_a] using h.lr
  · simpa [pm_ui_a] using h.lk
  · simpa [pm_ui_a] using h.ud
  · simpa [pm_ui_a] using h.gu
  · simpa [pm_ui_a] using h.fe
  · simpa [pm_ui_a] using h.al
  · intro v hv
    by_cases e : v = c
    · subst e; simp [pm_ui_a, fup_s]
    · simp only [fup_n e] at *; simpa [pm_ui_a, e] using h.hw v hv
  · intro v hv z
    by_cases e : v = c
    · subst e; simp [pm_ui_a, fup_s]
    · rw [fup_n e] at z; simpa [pm_ui_a, fup_n e, e] using h.aw v hv z
  · intro v hv; simpa [pm_ui_a] using h.nm v hv
  · intro v hv; simpa [pm_ui_a] using h.tk v hv
  · intro v hv z; simpa [pm_ui_a] using h.tc v hv z
  · intro v hv z; simpa [pm_ui_a] using h.tn v hv z
  · simpa [pm_ui_a] using h.cn
  · intro v hv z; simpa [pm_ui_a] using h.cf v hv z
theorem um_gu {σ : pST} {bd : Nat} {S : RnS} (h : RMw σ bd S) {x : Nat} : RMw (pm_ui (σ.1) 0 44 (nI x), σ.2) bd (mkRnS S.T S.am S.bg S.dd S.da S.al S.hw S.aw S.nm S.tk S.tc S.tn S.rr S.lr S.fe S.lk S.ud (x) S.cn S.cc S.co) := by
  refine ⟨?_, ?_, ?_, ?_, ?_, ?_, ?_, ?_, ?_, ?_, ?_, ?_, ?_, ?_, ?_, ?_⟩
  all_goals dsimp only [mkRnS_T, mkRnS_am, mkRnS_bg, mkRnS_dd, mkRnS_da, mkRnS_al, mkRnS_hw, mkRnS_aw, mkRnS_nm, mkRnS_tk, mkRnS_tc, mkRnS_tn, mkRnS_rr, mkRnS_lr, mkRnS_fe, mkRnS_lk, mkRnS_ud, mkRnS_gu, mkRnS_cn, mkRnS_cc, mkRnS_co]
  · simpa [pm_ui_a] using h.bd
  · simpa [pm_ui_a] using h.rr
  · simpa [pm_ui_a] using h.lr
  · simpa [pm_ui_a] using h.lk
  · simpa [pm_ui_a] using h.ud
  · simp [pm_ui_a]
  · simpa [pm_ui_a] using h.fe
  · simpa [pm_ui_a] using h.al
  · intro v hv; simpa [pm_ui_a] using h.hw v hv
  · intro v hv z; simpa [pm_ui_a] using h.aw v hv z
  · intro v hv; simpa [pm_ui_a] using h.nm v hv
  · intro v hv; simpa [pm_ui_a] using h.tk v hv
  · intro v hv z; simpa [pm_ui_a] using h.tc v hv z
  · intro v hv z; simpa [pm_ui_a] using h.tn v hv z
  · simpa [pm_ui_a] using h.cn
  · intro v hv z; simpa [pm_ui_a] using h.cf v hv z
theorem um_lk {σ : pST} {bd : Nat} {S : RnS} (h : RMw σ bd S) {x : Nat} : RMw (pm_ui (σ.1) 0 42 (nI x), σ.2) bd (mkRnS S.T S.am S.bg S.dd S.da S.al S.hw S.aw S.nm S.tk S.tc S.tn S.rr S.lr S.fe (x) S.ud S.gu S.cn S.cc S.co) := by
  refine ⟨?_, ?_, ?_, ?_, ?_, ?_, ?_, ?_, ?_, ?_, ?_, ?_, ?_, ?_, ?_, ?_⟩
  all_goals dsimp only [mkRnS_T, mkRnS_am, mkRnS_bg, mkRnS_dd, mkRnS_da, mkRnS_al, mkRnS_hw, mkRnS_aw, mkRnS_nm, mkRnS_tk, mkRnS_tc, mkRnS_tn, mkRnS_rr, mkRnS_lr, mkRnS_fe, mkRnS_lk, mkRnS_ud, mkRnS_gu, mkRnS_cn, mkRnS_cc, mkRnS_co]
  · simpa [pm_ui_a] using h.bd
  · simpa [pm_ui_a] using h.rr
  · simpa [pm_ui_a] using h.lr
  · simp [pm_ui_a]
  · simpa [pm_ui_a] using h.ud
  · simpa [pm_ui_a] using h.gu
  · simpa [pm_ui_a] using h.fe
  · simpa [pm_ui_a] using h.al
  · intro v hv; simpa [pm_ui_a] using h.hw v hv
  · intro v hv z; simpa [pm_ui_a] using h.aw v hv z
  · intro v hv; simpa [pm_ui_a] using h.nm v hv
  · intro v hv; simpa [pm_ui_a] using h.tk v hv
  · intro v hv z; simpa [pm_ui_a] using h.tc v hv z
  · intro v hv z; simpa [pm_ui_a] using h.tn v hv z
  · simpa [pm_ui_a] using h.cn
  · intro v hv z; simpa [pm_ui_a] using h.cf v hv z
theorem um_ud {σ : pST} {bd : Nat} {S : RnS} (h : RMw σ bd S) {x : Nat} : RMw (pm_ui (σ.1) 0 43 (nI x), σ.2) bd (mkRnS S.T S.am S.bg S.dd S.da S.al S.hw S.aw S.nm S.tk S.tc S.tn S.rr S.lr S.fe S.lk (x) S.gu S.cn S.cc S.co) := by
  refine ⟨?_, ?_, ?_, ?_, ?_, ?_, ?_, ?_, ?_, ?_, ?_, ?_, ?_, ?_, ?_, ?_⟩
  all_goals dsimp only [mkRnS_T, mkRnS_am, mkRnS_bg, mkRnS_dd, mkRnS_da, mkRnS_al, mkRnS_hw, mkRnS_aw, mkRnS_nm, mkRnS_tk, mkRnS_tc, mkRnS_tn, mkRnS_rr, mkRnS_lr, mkRnS_fe, mkRnS_lk, mkRnS_ud, mkRnS_gu, mkRnS_cn, mkRnS_cc, mkRnS_co]
  · simpa [pm_ui_a] using h.bd
  · simpa [pm_ui_a] using h.rr
  · simpa [pm_ui_a] using h.lr
  · simpa [pm_ui_a] using h.lk
  · simp [pm_ui_a]
  · simpa [pm_ui_a] using h.gu
  · simpa [pm_ui_a] using h.fe
  · simpa [pm_ui_a] using h.al
  · intro v hv; simpa [pm_ui_a] using h.hw v hv
  · intro v hv z; simpa [pm_ui_a] using h.aw v hv z
  · intro v hv; simpa [pm_ui_a] using h.nm v hv
  · intro v hv; simpa [pm_ui_a] using h.tk v hv
  · intro v hv z; simpa [pm_ui_a] using h.tc v hv z
  · intro v hv z; simpa [pm_ui_a] using h.tn v hv z
  · simpa [pm_ui_a] using h.cn
  · intro v hv z; simpa [pm_ui_a] using h.cf v hv z
theorem um_rr {σ : pST} {bd : Nat} {S : RnS} (h : RMw σ bd S) {x : Nat} : RMw (pm_ui (σ.1) 0 37 (nI x), σ.2) bd (mkRnS S.T S.am S.bg S.dd S.da S.al S.hw S.aw S.nm S.tk S.tc S.tn (x) S.lr S.fe S.lk S.ud S.gu S.cn S.cc S.co) := by
  refine ⟨?_, ?_, ?_, ?_, ?_, ?_, ?_, ?_, ?_, ?_, ?_, ?_, ?_, ?_, ?_, ?_⟩
  all_goals dsimp only [mkRnS_T, mkRnS_am, mkRnS_bg, mkRnS_dd, mkRnS_da, mkRnS_al, mkRnS_hw, mkRnS_aw, mkRnS_nm, mkRnS_tk, mkRnS_tc, mkRnS_tn, mkRnS_rr, mkRnS_lr, mkRnS_fe, mkRnS_lk, mkRnS_ud, mkRnS_gu, mkRnS_cn, mkRnS_cc, mkRnS_co]
  · simpa [pm_ui_a] using h.bd
  · simp [pm_ui_a]
  · simpa [pm_ui_a] using h.lr
  · simpa [pm_ui_a] using h.lk
  · simpa [pm_ui_a] using h.ud
  · simpa [pm_ui_a] using h.gu
  · simpa [pm_ui_a] using h.fe
  · simpa [pm_ui_a] using h.al
  · intro v hv; simpa [pm_ui_a] using h.hw v hv
  · intro v hv z; simpa [pm_ui_a] using h.aw v hv z
  · intro v hv; simpa [pm_ui_a] using h.nm v hv
  · intro v hv; simpa [pm_ui_a] using h.tk v hv
  · intro v hv z; simpa [pm_ui_a] using h.tc v hv z
  · intro v hv z; simpa [pm_ui_a] using h.tn v hv z
  · simpa [pm_ui_a] using h.cn
  · intro v hv z; simpa [pm_ui_a] using h.cf v hv z
theorem um_lr {σ : pST} {bd : Nat} {S : RnS} (h : RMw σ bd S) {x : Nat} : RMw (pm_ui (σ.1) 0 38 (nI x), σ.2) bd (mkRnS S.T S.am S.bg S.dd S.da S.al S.hw S.aw S.nm S.tk S.tc S.tn S.rr (x) S.fe S.lk S.ud S.gu S.cn S.cc S.co) := by
  refine ⟨?_, ?_, ?_, ?_, ?_, ?_, ?_, ?_, ?_, ?_, ?_, ?_, ?_, ?_, ?_, ?_⟩
  all_goals dsimp only [mkRnS_T, mkRnS_am, mkRnS_bg, mkRnS_dd, mkRnS_da, mkRnS_al, mkRnS_hw, mkRnS_aw, mkRnS_nm, mkRnS_tk, mkRnS_tc, mkRnS_tn, mkRnS_rr, mkRnS_lr, mkRnS_fe, mkRnS_lk, mkRnS_ud, mkRnS_gu, mkRnS_cn, mkRnS_cc, mkRnS_co]
  · simpa [pm_ui_a] using h.bd
  · simpa [pm_ui_a] using h.rr
  · simp [pm_ui_a]
  · simpa [pm_ui_a] using h.lk
  · simpa [pm_ui_a] using h.ud
  · simpa [pm_ui_a] using h.gu
  · simpa [pm_ui_a] using h.fe
  · simpa [pm_ui_a] using h.al
  · intro v hv; simpa [pm_ui_a] using h.hw v hv
  · intro v hv z; simpa [pm_ui_a] using h.aw v hv z
  · intro v hv; simpa [pm_ui_a] using h.nm v hv
  · intro v hv; simpa [pm_ui_a] using h.tk v hv
  · intro v hv z; simpa [pm_ui_a] using h.tc v hv z
  · intro v hv z; simpa [pm_ui_a] using h.tn v hv z
  · simpa [pm_ui_a] using h.cn
  · intro v hv z; simpa [pm_ui_a] using h.cf v hv z
theorem um_nm {σ : pST} {bd : Nat} {S : RnS} (h : RMw σ bd S) {c x : Nat} : RMw (pm_ui (σ.1) 26 c (nI x), σ.2) bd (mkRnS S.T S.am S.bg S.dd S.da S.al S.hw S.aw (fup S.nm c x) S.tk S.tc S.tn S.rr S.lr S.fe S.lk S.ud S.gu S.cn S.cc S.co) := by
  refine ⟨?_, ?_, ?_, ?_, ?_, ?_, ?_, ?_, ?_, ?_, ?_, ?_, ?_, ?_, ?_, ?_⟩
  all_goals dsimp only [mkRnS_T, mkRnS_am, mkRnS_bg, mkRnS_dd, mkRnS_da, mkRnS_al, mkRnS_hw, mkRnS_aw, mkRnS_nm, mkRnS_tk, mkRnS_tc, mkRnS_tn, mkRnS_rr, mkRnS_lr, mkRnS_fe, mkRnS_lk, mkRnS_ud, mkRnS_gu, mkRnS_cn, mkRnS_cc, mkRnS_co]
  · simpa [pm_ui_a] using h.bd
  · simpa [pm_ui_a] using h.rr
  · simpa [pm_ui_a] using h.lr
  · simpa [pm_ui_a] using h.lk
  · simpa [pm_ui_a] using h.ud
  · simpa [pm_ui_a] using h.gu
  · simpa [pm_ui_a] using h.fe
  · simpa [pm_ui_a] using h.al
  · intro v hv; simpa [pm_ui_a] using h.hw v hv
  · intro v hv z; simpa [pm_ui_a] using h.aw v hv z
  · intro v hv
    by_cases e : v = c
    · subst e; simp [pm_ui_a, fup_s]
    · simp only [fup_n e] at *; simpa [pm_ui_a, e] using h.nm v hv
  · intro v hv; simpa [pm_ui_a] using h.tk v hv
  · intro v hv z; simpa [pm_ui_a] using h.tc v hv z
  · intro v hv z; simpa [pm_ui_a] using h.tn v hv z
  · simpa [pm_ui_a] using h.cn
  · intro v hv z; simpa [pm_ui_a] using h.cf v hv z
theorem um_look {σ : pST} {bd : Nat} {S : RnS} (h : RMw σ bd S) {w c x : Nat} (hx : S.nm c = x) : RMw (pm_ui (pm_ui (pm_ui (σ.1) 28 w (nI 2)) 29 w (nI c)) 30 w (nI x), σ.2) bd (mkRnS S.T S.am S.bg S.dd S.da S.al S.hw S.aw S.nm (fup S.tk w 2) (fup S.tc w c) (fup S.tn w (S.nm c)) S.rr S.lr S.fe S.lk S.ud S.gu S.cn S.cc S.co) := by
  refine ⟨?_, ?_, ?_, ?_, ?_, ?_, ?_, ?_, ?_, ?_, ?_, ?_, ?_, ?_, ?_, ?_⟩
  all_goals dsimp only [mkRnS_T, mkRnS_am, mkRnS_bg, mkRnS_dd, mkRnS_da, mkRnS_al, mkRnS_hw, mkRnS_aw, mkRnS_nm, mkRnS_tk, mkRnS_tc, mkRnS_tn, mkRnS_rr, mkRnS_lr, mkRnS_fe, mkRnS_lk, mkRnS_ud, mkRnS_gu, mkRnS_cn, mkRnS_cc, mkRnS_co]
  · simpa [pm_ui_a] using h.bd
  · simpa [pm_ui_a] using h.rr
  · simpa [pm_ui_a] using h.lr
  · simpa [pm_ui_a] using h.lk
  · simpa [pm_ui_a] using h.ud
  · simpa [pm_ui_a] using h.gu
  · simpa [pm_ui_a] using h.fe
  · simpa [pm_ui_a] using h.al
  · intro v hv; simpa [pm_ui_a] using h.hw v hv
  · intro v hv z; simpa [pm_ui_a] using h.aw v hv z
  · intro v hv; simpa [pm_ui_a] using h.nm v hv
  · intro v hv
    by_cases e : v = w
    · subst e; simp [pm_ui_a, fup_s]
    · simp only [fup_n e] at *; simpa [pm_ui_a, e] using h.tk v hv
  · intro v hv z
    by_cases e : v = w
    · subst e; simp [pm_ui_a, fup_s]
    · rw [fup_n e] at z; simpa [pm_ui_a, fup_n e, e] using h.tc v hv z
  · intro v hv z
    by_cases e : v = w
    · subst e; simp [pm_ui_a, fup_s, hx]
    · rw [fup_n e] at z; simpa [pm_ui_a, fup_n e, e] using h.tn v hv z
  · simpa [pm_ui_a] using h.cn
  · intro v hv z; simpa [pm_ui_a] using h.cf v hv z
theorem um_run {σ : pST} {bd : Nat} {S : RnS} (h : RMw σ bd S) {w c : Nat} : RMw (pm_ui (pm_ui (σ.1) 28 w (nI 1)) 29 w (nI c), σ.2) bd (mkRnS S.T S.am S.bg S.dd S.da S.al S.hw S.aw S.nm (fup S.tk w 1) (fup S.tc w c) S.tn S.rr S.lr S.fe S.lk S.ud S.gu S.cn S.cc S.co) := by
  refine ⟨?_, ?_, ?_, ?_, ?_, ?_, ?_, ?_, ?_, ?_, ?_, ?_, ?_, ?_, ?_, ?_⟩
  all_goals dsimp only [mkRnS_T, mkRnS_am, mkRnS_bg, mkRnS_dd, mkRnS_da, mkRnS_al, mkRnS_hw, mkRnS_aw, mkRnS_nm, mkRnS_tk, mkRnS_tc, mkRnS_tn, mkRnS_rr, mkRnS_lr, mkRnS_fe, mkRnS_lk, mkRnS_ud, mkRnS_gu, mkRnS_cn, mkRnS_cc, mkRnS_co]
  · simpa [pm_ui_a] using h.bd
  · simpa [pm_ui_a] using h.rr
  · simpa [pm_ui_a] using h.lr
  · simpa [pm_ui_a] using h.lk
  · simpa [pm_ui_a] using h.ud
  · simpa [pm_ui_a] using h.gu
  · simpa [pm_ui_a] using h.fe
  · simpa [pm_ui_a] using h.al
  · intro v hv; simpa [pm_ui_a] using h.hw v hv
  · intro v hv z; simpa [pm_ui_a] using h.aw v hv z
  · intro v hv; simpa [pm_ui_a] using h.nm v hv
  · intro v hv
    by_cases e : v = w
    · subst e; simp [pm_ui_a, fup_s]
    · simp only [fup_n e] at *; simpa [pm_ui_a, e] using h.tk v hv
  · intro v hv z
    by_cases e : v = w
    · subst e; simp [pm_ui_a, fup_s]
    · rw [fup_n e] at z; simpa [pm_ui_a, fup_n e, e] using h.tc v hv z
  · intro v hv z
    by_cases e : v = w
    · subst e; rw [fup_s] at z; cases z
    · rw [fup_n e] at z; simpa [pm_ui_a, fup_n e, e] using h.tn v hv z
  · simpa [pm_ui_a] using h.cn
  · intro v hv z; simpa [pm_ui_a] using h.cf v hv z
theorem um_fe {σ : pST} {bd : Nat} {S : RnS} (h : RMw σ bd S)  : RMw (pm_ui (σ.1) 0 41 (nI 1), σ.2) bd (mkRnS S.T S.am S.bg S.dd S.da S.al S.hw S.aw S.nm S.tk S.tc S.tn S.rr S.lr (true) S.lk S.ud S.gu S.cn S.cc S.co) := by
  refine ⟨?_, ?_, ?_, ?_, ?_, ?_, ?_, ?_, ?_, ?_, ?_, ?_, ?_, ?_, ?_, ?_⟩
  all_goals dsimp only [mkRnS_T, mkRnS_am, mkRnS_bg, mkRnS_dd, mkRnS_da, mkRnS_al, mkRnS_hw, mkRnS_aw, mkRnS_nm, mkRnS_tk, mkRnS_tc, mkRnS_tn, mkRnS_rr, mkRnS_lr, mkRnS_fe, mkRnS_lk, mkRnS_ud, mkRnS_gu, mkRnS_cn, mkRnS_cc, mkRnS_co]
  · simpa [pm_ui_a] using h.bd
  · simpa [pm_ui_a] using h.rr
  · simpa [pm_ui_a] using h.lr
  · simpa [pm_ui_a] using h.lk
  · simpa [pm_ui_a] using h.ud
  · simpa [pm_ui_a] using h.gu
  · simp [pm_ui_a]; rfl
  · simpa [pm_ui_a] using h.al
  · intro v hv; simpa [pm_ui_a] using h.hw v hv
  · intro v hv z; simpa [pm_ui_a] using h.aw v hv z
  · intro v hv; simpa [pm_ui_a] using h.nm v hv
  · intro v hv; simpa [pm_ui_a] using h.tk v hv
  · intro v hv z; simpa [pm_ui_a] using h.tc v hv z
  · intro v hv z; simpa [pm_ui_a] using h.tn v hv z
  · simpa [pm_ui_a] using h.cn
  · intro v hv z; simpa [pm_ui_a] using h.cf v hv z
theorem um_note {σ : pST} {bd : Nat} {S : RnS} (h : RMw σ bd S) {c : Nat} {oo : Option Nat} : RMw (pm_ui (if S.cn < 200 then pm_ui (pm_ui (σ.1) 32 S.cn (nI c)) 33 S.cn (oI oo) else σ.1) 0 47 (nI (S.cn + 1)), σ.2) bd (noteS S c oo) := by
  have key : ∀ x y, x ≠ 32 → x ≠ 33 → ¬ (x = 0 ∧ y = 47) → (pm_ui (if S.cn < 200 then pm_ui (pm_ui (σ.1) 32 S.cn (nI c)) 33 S.cn (oI oo) else σ.1) 0 47 (nI (S.cn + 1))) x y = σ.1 x y := by
    intro x y h1 h2 h3
    rw [pm_ui_a, if_neg h3]
    split
    · rw [pm_ui_a, if_neg (fun z => h2 z.1), pm_ui_a, if_neg (fun z => h1 z.1)]
    · rfl
  refine ⟨?_, ?_, ?_, ?_, ?_, ?_, ?_, ?_, ?_, ?_, ?_, ?_, ?_, ?_, ?_, ?_⟩
  all_goals dsimp only [noteS, mkRnS_T, mkRnS_am, mkRnS_bg, mkRnS_dd, mkRnS_da, mkRnS_al, mkRnS_hw, mkRnS_aw, mkRnS_nm, mkRnS_tk, mkRnS_tc, mkRnS_tn, mkRnS_rr, mkRnS_lr, mkRnS_fe, mkRnS_lk, mkRnS_ud, mkRnS_gu, mkRnS_cn, mkRnS_cc, mkRnS_co]
  · rw [key _ _ (by decide) (by decide) (by decide)]; exact h.bd
  · rw [key _ _ (by decide) (by decide) (by decide)]; exact h.rr
  · rw [key _ _ (by decide) (by decide) (by decide)]; exact h.lr
  · rw [key _ _ (by decide) (by decide) (by decide)]; exact h.lk
  · rw [key _ _ (by decide) (by decide) (by decide)]; exact h.ud
  · rw [key _ _ (by decide) (by decide) (by decide)]; exact h.gu
  · rw [key _ _ (by decide) (by decide) (by decide)]; exact h.fe
  · rw [key _ _ (by decide) (by decide) (by decide)]; exact h.al
  · intro v hv; rw [key _ _ (by decide) (by decide) (fun z => absurd z.1 (by decide))]; exact h.hw v hv
  · intro v hv; rw [key _ _ (by decide) (by decide) (fun z => absurd z.1 (by decide))]; exact h.aw v hv
  · intro v hv; rw [key _ _ (by decide) (by decide) (fun z => absurd z.1 (by decide))]; exact h.nm v hv
  · intro v hv; rw [key _ _ (by decide) (by decide) (fun z => absurd z.1 (by decide))]; exact h.tk v hv
  · intro v hv; rw [key _ _ (by decide) (by decide) (fun z => absurd z.1 (by decide))]; exact h.tc v hv
  · intro v hv; rw [key _ _ (by decide) (by decide) (fun z => absurd z.1 (by decide))]; exact h.tn v hv
  · rw [pm_ui_a, if_pos ⟨rfl, rfl⟩]
  · intro v hv z
    have key2 : ∀ (I : Nat → Nat → Int32) (x y : Nat) (u : Int32), x ≠ 0 → pm_ui I 0 47 u x y = I x y := fun I x y u hx => by rw [pm_ui_a, if_neg (fun z => hx z.1)]
    rw [key2 _ 32 v _ (by decide), key2 _ 33 v _ (by decide)]
    by_cases e : v = S.cn
    · subst e
      rw [if_pos hv, fup_s, fup_s]
      simp [pm_ui_a]
    · rw [fup_n e, fup_n e]
      have := h.cf v hv (by omega)
      split
      · simpa [pm_ui_a, e] using this
      · exact this
theorem um_wake {σ : pST} {bd n : Nat} {S : RnS} (h : RMw σ bd S) {c : Nat} : RMw (wmI σ.1 S c n 0, σ.2) bd (wakeS S c n) := by
  have key : ∀ x y, x ≠ 25 → ¬ (x = 0 ∧ y = 37) → wmI σ.1 S c n 0 x y = σ.1 x y := by
    intro x y h1 h2
    unfold wmI
    rw [if_neg (fun z => h1 z.1), if_neg h2]
  refine ⟨?_, ?_, ?_, ?_, ?_, ?_, ?_, ?_, ?_, ?_, ?_, ?_, ?_, ?_, ?_, ?_⟩
  all_goals dsimp only [wakeS, mkRnS_T, mkRnS_am, mkRnS_bg, mkRnS_dd, mkRnS_da, mkRnS_al, mkRnS_hw, mkRnS_aw, mkRnS_nm, mkRnS_tk, mkRnS_tc, mkRnS_tn, mkRnS_rr, mkRnS_lr, mkRnS_fe, mkRnS_lk, mkRnS_ud, mkRnS_gu, mkRnS_cn, mkRnS_cc, mkRnS_co]
  · rw [key _ _ (by decide) (by decide)]; exact h.bd
  · unfold wmI
    rw [if_neg (fun z => absurd z.1 (by decide)), if_pos ⟨rfl, rfl⟩, Nat.sub_zero, wkD_all]
  · rw [key _ _ (by decide) (by decide)]; exact h.lr
  · rw [key _ _ (by decide) (by decide)]; exact h.lk
  · rw [key _ _ (by decide) (by decide)]; exact h.ud
  · rw [key _ _ (by decide) (by decide)]; exact h.gu
  · rw [key _ _ (by decide) (by decide)]; exact h.fe
  · rw [key _ _ (by decide) (by decide)]; exact h.al
  · intro v hv
    unfold wmI
    by_cases e : v < n ∧ wokeS S c v
    · rw [if_pos ⟨rfl, Nat.zero_le _, e⟩, if_pos e]
    · rw [if_neg (fun z => e z.2.2), if_neg (fun z => absurd z.1 (by decide)), if_neg e]
      exact h.hw v hv
  · intro v hv z
    rw [key _ _ (by decide) (fun z => absurd z.1 (by decide))]
    refine h.aw v hv ?_
    split at z
    · cases z
    · exact z
  · intro v hv; rw [key _ _ (by decide) (fun z => absurd z.1 (by decide))]; exact h.nm v hv
  · intro v hv; rw [key _ _ (by decide) (fun z => absurd z.1 (by decide))]; exact h.tk v hv
  · intro v hv; rw [key _ _ (by decide) (fun z => absurd z.1 (by decide))]; exact h.tc v hv
  · intro v hv; rw [key _ _ (by decide) (fun z => absurd z.1 (by decide))]; exact h.tn v hv
  · rw [key _ _ (by decide) (by decide)]; exact h.cn
  · intro v hv; rw [key _ _ (by decide) (fun z => absurd z.1 (by decide)), key _ _ (by decide) (fun z => absurd z.1 (by decide))]; exact h.cf v hv
/-- the slots of the object that the workers keep -/
abbrev slW (y : Nat) : Prop := y = 2 ∨ y = 37 ∨ y = 38 ∨ y = 42 ∨ y = 43 ∨ y = 44 ∨ y = 41 ∨ y = 22 ∨ y = 47
theorem um_c {σ ρ : pST} {bd : Nat} {S S' : RnS} (h : RMw σ bd S) (h0 : ∀ y, slW y → y ≠ 22 → ρ.1 0 y = σ.1 0 y) (hal : ρ.1 0 22 = nI S'.al) (hx : ∀ x, 25 ≤ x → x ≤ 33 → ρ.1 x = σ.1 x) (g1 : S'.rr = S.rr) (g2 : S'.lr = S.lr) (g3 : S'.lk = S.lk) (g4 : S'.ud = S.ud) (g5 : S'.gu = S.gu) (g6 : S'.fe = S.fe) (g7 : S'.hw = S.hw) (g8 : S'.aw = S.aw) (g9 : S'.nm = S.nm) (g10 : S'.tk = S.tk) (g11 : S'.tc = S.tc) (g12 : S'.tn = S.tn) (g13 : S'.cn = S.cn) (g14 : S'.cc = S.cc) (g15 : S'.co = S.co) : RMw ρ bd S' := by
  have e25 := hx 25 (by decide) (by decide)
  have e26 := hx 26 (by decide) (by decide)
  have e27 := hx 27 (by decide) (by decide)
  have e28 := hx 28 (by decide) (by decide)
  have e29 := hx 29 (by decide) (by decide)
  have e30 := hx 30 (by decide) (by decide)
  have e32 := hx 32 (by decide) (by decide)
  have e33 := hx 33 (by decide) (by decide)
  obtain ⟨k1, k2, k3, k4, k5, k6, k7, k8, k9, k10, k11, k12, k13, k14, k15, k16⟩ := h
  refine ⟨?_, ?_, ?_, ?_, ?_, ?_, ?_, hal, ?_, ?_, ?_, ?_, ?_, ?_, ?_, ?_⟩
  · rw [h0 2 (by decide) (by decide)]; exact k1
  · rw [h0 37 (by decide) (by decide), g1]; exact k2
  · rw [h0 38 (by decide) (by decide), g2]; exact k3
  · rw [h0 42 (by decide) (by decide), g3]; exact k4
  · rw [h0 43 (by decide) (by decide), g4]; exact k5
  · rw [h0 44 (by decide) (by decide), g5]; exact k6
  · rw [h0 41 (by decide) (by decide), g6]; exact k7
  · rw [e25, g7]; exact k9
  · rw [e27, g7, g8]; exact k10
  · rw [e26, g9]; exact k11
  · rw [e28, g10]; exact k12
  · rw [e29, g10, g11]; exact k13
  · rw [e30, g10, g12]; exact k14
  · rw [h0 47 (by decide) (by decide), g13]; exact k15
  · rw [e32, e33, g13, g14, g15]; exact k16
abbrev RMa (σ : pST) (S : RnS) (c : Nat) : Prop := (σ.1 19 c = nI (S.bg c)) ∧ (1 ≤ S.bg c → RMat σ c (S.am c) ∧ σ.1 20 c = nI (S.dd c))
theorem RMa.bg {σ : pST} {S : RnS} {c : Nat} (h : RMa σ S c) : σ.1 19 c = nI (S.bg c) := h.1
theorem RMa.am {σ : pST} {S : RnS} {c : Nat} (h : RMa σ S c) : 1 ≤ S.bg c → RMat σ c (S.am c) ∧ σ.1 20 c = nI (S.dd c) := h.2
abbrev RMb (σ : pST) (B : BkS) (S : RnS) : Prop := (RMbk σ B) ∧ (RMtb σ S.T 16) ∧ (∀ y, σ.1 22 y = 0 ∨ σ.1 22 y = 1) ∧ (∀ c, c < 16 → RMa σ S c)
theorem RMb.bk {σ : pST} {B : BkS} {S : RnS} (h : RMb σ B S) : RMbk σ B := h.1
theorem RMb.tb {σ : pST} {B : BkS} {S : RnS} (h : RMb σ B S) : RMtb σ S.T 16 := h.2.1
theorem RMb.z {σ : pST} {B : BkS} {S : RnS} (h : RMb σ B S) : ∀ y, σ.1 22 y = 0 ∨ σ.1 22 y = 1 := h.2.2.1
theorem RMb.a {σ : pST} {B : BkS} {S : RnS} (h : RMb σ B S) : ∀ c, c < 16 → RMa σ S c := h.2.2.2
theorem mat_c {σ ρ : pST} {c : Nat} {A : AtS} (h : RMat σ c A) (hx : ∀ x, 7 ≤ x → x ≤ 18 → ρ.1 x = σ.1 x ∧ ρ.2 x = σ.2 x) : RMat ρ c A := by
  unfold RMat
  rw [(hx 7 (by decide) (by decide)).1, (hx 9 (by decide) (by decide)).1, (hx 12 (by decide) (by decide)).1, (hx 17 (by decide) (by decide)).1, (hx 8 (by decide) (by decide)).2, (hx 10 (by decide) (by decide)).1, (hx 11 (by decide) (by decide)).2, (hx 18 (by decide) (by decide)).2, (hx 13 (by decide) (by decide)).1, (hx 14 (by decide) (by decide)).1, (hx 15 (by decide) (by decide)).1, (hx 16 (by decide) (by decide)).2]
  exact h
theorem mbk_c {σ ρ : pST} {B : BkS} (h : RMbk σ B) (h1 : ρ.1 0 1 = σ.1 0 1) (hx : ∀ x, 2 ≤ x → x ≤ 6 → ρ.1 x = σ.1 x ∧ ρ.2 x = σ.2 x) : RMbk ρ B := by
  unfold RMbk
  rw [h1, (hx 2 (by decide) (by decide)).1, (hx 3 (by decide) (by decide)).1, (hx 4 (by decide) (by decide)).1, (hx 5 (by decide) (by decide)).1, (hx 6 (by decide) (by decide)).2]
  exact h
theorem mtb_c {σ ρ : pST} {T : TbS} {m : Nat} (h : RMtb σ T m) (h1 : ρ.2 1 = σ.2 1) (hx : ∀ x, 21 ≤ x → x ≤ 24 → ρ.1 x = σ.1 x ∧ ρ.2 x = σ.2 x) : RMtb ρ T m := by
  unfold RMtb
  rw [h1, (hx 21 (by decide) (by decide)).1, (hx 22 (by decide) (by decide)).1, (hx 24 (by decide) (by decide)).1, (hx 23 (by decide) (by decide)).2]
  exact h
theorem ma_s {σ : pST} {S S' : RnS} {c : Nat} (h : RMa σ S c) (h1 : S'.bg c = S.bg c) (h3 : S'.am c = S.am c) (h4 : S'.dd c = S.dd c) : RMa σ S' c := by
  obtain ⟨k2, k4⟩ := h
  exact ⟨by rw [h1]; exact k2, fun z => by rw [h3, h4]; exact k4 (by rw [← h1]; exact z)⟩
theorem ma_c {σ ρ : pST} {S : RnS} {c : Nat} (h : RMa σ S c) (hx : ∀ x, 7 ≤ x → x ≤ 20 → ρ.1 x = σ.1 x ∧ ρ.2 x = σ.2 x) : RMa ρ S c :=
  ⟨by rw [(hx 19 (by decide) (by decide)).1]; exact h.bg, fun z => ⟨mat_c (h.am z).1 fun x z1 z2 => hx x z1 (Nat.le_trans z2 (by decide)), by rw [(hx 20 (by decide) (by decide)).1]; exact (h.am z).2⟩⟩
theorem mb_c {σ ρ : pST} {B : BkS} {S : RnS} (h : RMb σ B S) (h1 : ρ.1 0 1 = σ.1 0 1) (hx : ∀ x, 1 ≤ x → x ≤ 24 → ρ.1 x = σ.1 x ∧ ρ.2 x = σ.2 x) : RMb ρ B S :=
  ⟨mbk_c h.bk h1 fun x z1 z2 => hx x (Nat.le_trans (by decide) z1) (Nat.le_trans z2 (by decide)), mtb_c h.tb (hx 1 (by decide) (by decide)).2 fun x z1 z2 => hx x (Nat.le_trans (by decide) z1) z2, by rw [(hx 22 (by decide) (by decide)).1]; exact h.z, fun c hc => ma_c (h.a c hc) fun x z1 z2 => hx x (Nat.le_trans (by decide) z1) (Nat.le_trans z2 (by decide))⟩
theorem mb_s {σ : pST} {B : BkS} {S S' : RnS} (h : RMb σ B S) (h0 : S'.T = S.T) (h1 : S'.bg = S.bg) (h3 : S'.am = S.am) (h4 : S'.dd = S.dd) : RMb σ B S' := ⟨h.bk, by rw [h0]; exact h.tb, h.z, fun c hc => ma_s (h.a c hc) (by rw [h1]) (by rw [h3]) (by rw [h4])⟩
theorem mb_w {σ : pST} {B : BkS} {S : RnS} {I : Nat → Nat → Int32} (h : RMb σ B S) (h1 : I 0 1 = σ.1 0 1) (hx : ∀ x, 1 ≤ x → x ≤ 24 → I x = σ.1 x) : RMb (I, σ.2) B S := mb_c h h1 fun x z1 z2 => ⟨hx x z1 z2, rfl⟩
abbrev RM (σ : pST) (B : BkS) (bd : Nat) (S : RnS) : Prop := RMb σ B S ∧ RMw σ bd S
abbrev FrR (σ ρ : pST) : Prop := ρ.1 0 39 = σ.1 0 39 ∧ ρ.1 0 40 = σ.1 0 40
theorem FrR.trans {σ ρ τ : pST} (h1 : FrR σ ρ) (h2 : FrR ρ τ) : FrR σ τ := ⟨h2.1.trans h1.1, h2.2.trans h1.2⟩
