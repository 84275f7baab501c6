/-! ===== the class opened is the plain machine's first state ===== -/
def S0 (bf : Nat → Int64) : RnS := mkRnS (tb0 bf) (fun _ => at0) (fun _ => 0) (fun _ => 0) (fun _ => 0) 0 (fun _ => 0) (fun _ => 0) (fun _ => 0) (fun _ => 0) (fun _ => 0) (fun _ => 0) 0 0 false 0 0 0 0 (fun _ => 0) (fun _ => none)
theorem opnB_o {σ : pST} {b x y : Nat} (h1 : x ≠ b + 3) (h2 : ¬ (x = b ∧ y = 2)) (h3 : ¬ (b + 7 ≤ x ∧ x < b + 7 + 8 * 16 ∧ (x - (b + 7)) % 8 = 0 ∧ (y = 1 ∨ y = 2))) : (opnB σ b).1 x y = σ.1 x y := by
  show (if _ then _ else filI (pm_ui σ.1 b 2 (σ.1 2 0)) (b + 1 + 2) 512 0 x y) = _
  rw [if_neg h3]
  show (if _ then _ else _) = _
  rw [if_neg (fun z => h1 z.1), pm_ui_a, if_neg h2]
theorem opnB_2 {σ : pST} {b x : Nat} (h1 : x ≠ b + 2) : (opnB σ b).2 x = σ.2 x := by
  show (if x = b + 1 + 1 then _ else σ.2 x) = _
  rw [if_neg h1]
theorem opnB_bf {σ : pST} {b k : Nat} (hk : k < 32) : (opnB σ b).2 (b + 2) k = σ.2 1 k := by
  show (if b + 2 = b + 1 + 1 then va_cpy (σ.2 1) (σ.2 (b + 1 + 1)) 0 0 32 else σ.2 (b + 2)) k = _
  rw [if_pos rfl]
  show (if _ then σ.2 1 (0 + (k - 0)) else _) = _
  rw [if_pos ⟨Nat.zero_le _, by omega⟩, show 0 + (k - 0) = k by omega]
theorem opnB_st {σ : pST} {b y : Nat} (hy : y < 512) : (opnB σ b).1 (b + 3) y = 0 := by
  show (if _ then _ else filI (pm_ui σ.1 b 2 (σ.1 2 0)) (b + 1 + 2) 512 0 (b + 3) y) = _
  split
  · rfl
  · exact if_pos ⟨rfl, hy⟩
theorem opnB_n {σ : pST} {b : Nat} : (opnB σ b).1 b 2 = σ.1 2 0 := by
  show (if _ then _ else filI (pm_ui σ.1 b 2 (σ.1 2 0)) (b + 1 + 2) 512 0 b 2) = _
  rw [if_neg (by omega)]
  show (if _ then _ else _) = _
  rw [if_neg (by omega), pm_ui_a, if_pos ⟨rfl, rfl⟩]
theorem opnB_z {σ : pST} {b c y : Nat} (hc : c < 16) (hy : y = 1 ∨ y = 2) : (opnB σ b).1 (b + 7 + 8 * c) y = 0 := if_pos ⟨by omega, by omega, by omega, hy⟩
theorem opn_tb {σ : pST} {b m : Nat} {bf : Nat → Int64} (hm : m ≤ 16) (hbf : ∀ k, k < 32 → σ.2 1 k = bf k) : RXtb (opnB σ b) (b + 1) (tb0 bf) m := by
  refine ⟨fun k j hk hj => ⟨?_, Nat.zero_le _⟩, fun k j hk hj hs => absurd rfl hs, fun k hk => ?_⟩
  · show (opnB σ b).1 (b + 3) (k * 16 + j) = nI 0
    rw [opnB_st (by omega)]
    rfl
  · show (opnB σ b).2 (b + 2) k = bf k
    rw [opnB_bf hk, hbf k hk]
/-- the trial bench and the latest one, opened: nothing run yet -/
theorem opn_ox {σ : pST} {b : Nat} {B : BkS} {S : RnS} (hb : 8 < b) (hbk : RXbk σ B) (hs : ∀ c, c < 16 → σ.1 (b + 7 + 8 * c) 0 = nI c) (hbf : ∀ k, k < 32 → σ.2 1 k = S.T.bf k) (hbg : ∀ c, S.bg c = 0) (hda : ∀ c, S.da c = 0) : OX (opnB σ b) (opnB σ b) b B S 0 := by
  refine ⟨?_, rfl, opn_tb (by omega) hbf, fun _ _ _ _ _ => rfl, fun d hd => ⟨?_, ?_, ?_, fun z => ?_⟩, fun _ _ => ⟨rfl, rfl⟩⟩
  · refine bk_c hbk fun x z1 z2 => ⟨?_, opnB_2 (by clear hbk; omega)⟩
    funext y
    exact opnB_o (by clear hbk; omega) (by clear hbk; omega) (by clear hbk; omega)
  · rw [opnB_o (by clear hbk; omega) (by clear hbk; omega) (by clear hbk; omega)]
    exact hs d hd
  · rw [opnB_z hd (.inl rfl)]
    show _ = nI (S.bg d)
    rw [hbg]
    rfl
  · rw [opnB_z hd (.inr rfl)]
    show _ = nI (S.da d)
    rw [hda]
    rfl
  · have : S.bg d ≥ 1 := z
    rw [hbg] at this
    exact absurd this (by decide)
theorem opnW_o {σ : pST} {sz bd x : Nat} (h1 : x ≠ 8) (h2 : x < 144 ∨ 150 < x) : (opnW σ sz bd).1 x = (opnB σ 9).1 x := by
  funext y
  show filI _ 150 4 (nI 0) x y = _
  unfold filI
  rw [if_neg (by omega), if_neg (by omega), if_neg (by omega), if_neg (by omega), ui_o h1, ui_o h1, ui_o h1, ui_o h1, ui_o h1, ui_o h1, ui_o h1, ui_o h1, ui_o h1, ui_o (by omega)]
theorem rx_open {σ : pST} {B : BkS} {sz bd : Nat} {bf : Nat → Int64} (hbk : RXbk σ B) (hs : ∀ c, c < 16 → σ.1 (16 + 8 * c) 0 = nI c) (hbf : ∀ k, k < 32 → σ.2 1 k = bf k) : RX (opnW σ sz bd) B sz bd (S0 bf) ∧ (opnW σ sz bd).1 8 2 = nI 0 ∧ ∀ x, x ≤ 7 ∨ 153 ≤ x → (opnW σ sz bd).1 x = σ.1 x ∧ (opnW σ sz bd).2 x = σ.2 x := by
  have ox := opn_ox (σ := σ) (b := 9) (S := S0 bf) (by decide) hbk hs hbf (fun _ => rfl) (fun _ => rfl)
  have h9 : (opnW σ sz bd).1 9 = (opnB σ 9).1 9 := opnW_o (by decide) (by decide)
  refine ⟨⟨⟨?_, ?_, fun c hc => ?_⟩, ?_⟩, ?_, fun x hx => ⟨?_, opnB_2 (by clear ox hbk; omega)⟩⟩
  · exact bk_c ox.bk fun x z1 z2 => ⟨opnW_o (le_ne z2 (by decide)) (.inl (Nat.lt_of_le_of_lt z2 (by decide))), rfl⟩
  · exact tb_c (opn_tb (b := 9) (m := 16) (Nat.le_refl _) hbf) fun x z1 z2 => ⟨opnW_o (ge_ne z1 (by decide)) (.inl (Nat.lt_of_le_of_lt z2 (by decide))), rfl⟩
  · have q := ox.a c hc
    have e : (opnW σ sz bd).1 (16 + 8 * c) = (opnB σ 9).1 (16 + 8 * c) := opnW_o (by clear ox hbk q; omega) (by clear ox hbk q; omega)
    exact ⟨by rw [e]; exact q.s0, by rw [e]; exact q.bg, by rw [e]; exact q.da, fun z => absurd (show 1 ≤ 0 from z) (by decide)⟩
  · have hn : (opnB σ 9).1 9 2 = nI B.n := by rw [opnB_n, hbk.n]
    refine ⟨by rw [h9, hn], ?_, ?_, ?_, fun _ => ?_, ?_, ?_, ?_, ?_, fun c hc => ?_, fun c hc z => ?_, fun c hc => ?_, fun w hw => ?_, fun w hw z => ?_, fun w hw z => ?_, ?_, fun i hi z => ?_⟩
    all_goals clear ox hbk
    all_goals try dsimp only [S0, mkRnS_T, mkRnS_am, mkRnS_bg, mkRnS_dd, mkRnS_da, mkRnS_al, mkRnS_hw, mkRnS_aw, mkRnS_nm, mkRnS_tk, mkRnS_tc, mkRnS_tn, mkRnS_rr, mkRnS_lr, mkRnS_fe, mkRnS_lk, mkRnS_ud, mkRnS_gu, mkRnS_cn, mkRnS_cc, mkRnS_co]
    · simp [opnW, filI, pm_ui_a]
    · simp [opnW, filI, pm_ui_a]
    · simp [opnW, filI, pm_ui_a]
    · simp [opnW, filI, pm_ui_a]
    · simp [opnW, filI, pm_ui_a]
    · simp [opnW, filI, pm_ui_a]
    · simp [opnW, filI, pm_ui_a]
    · simp [opnW, filI, pm_ui_a]; rfl
    · simp [opnW, filI, hc]
    · exact absurd (show (0 : Nat) = 3 from z) (by decide)
    · simp [opnW, filI, hc]
    · simp [opnW, filI, hw]
    · exact absurd rfl z
    · exact absurd (show (0 : Nat) = 2 from z) (by decide)
    · simp [opnW, filI, pm_ui_a]
    · exact absurd z (Nat.not_lt_zero _)
  · simp [opnW, filI, pm_ui_a]
  · funext y
    clear ox hbk
    rw [opnW_o (by omega) (by omega)]
    exact opnB_o (by omega) (by omega) (by omega)
theorem sok_0 {B : BkS} {sz : Nat} {bf : Nat → Int64} : SOK B sz (S0 bf) :=
  ⟨fun _ => Nat.zero_le _, fun _ z => absurd (show (0 : Nat) = 3 from z) (by decide), fun _ => Nat.zero_le _, fun _ => Nat.zero_le _, fun _ z => absurd rfl z, fun _ z => absurd (show (0 : Nat) = 2 from z) (by decide), Nat.zero_le _, Nat.zero_le _, fun _ _ z => absurd (show 1 ≤ 0 from z) (by decide), fun _ _ => .inl ⟨rfl, Nat.zero_le _⟩, fun _ _ => Nat.zero_le _, fun _ _ => Nat.zero_le _⟩
theorem sumN_0 : ∀ n, sumN (fun _ => 0) n = 0
  | 0 => rfl
  | n + 1 => by unfold sumN; rw [sumN_0 n]
theorem kok_0 {B : BkS} {bf : Nat → Int64} : KOK B (S0 bf) := ⟨fun _ _ _ => rfl, fun _ i z => absurd (show i < 0 from z) (Nat.not_lt_zero _), rfl, (sumN_0 B.n).symm⟩
theorem ti_0 {B : BkS} {bd : Nat} {bf : Nat → Int64} (h : 1 ≤ bd) : TI B bd (S0 bf) := ⟨Nat.zero_le _, Nat.zero_le _, fun _ => Nat.zero_le _, fun _ z => absurd (show (0 : Nat) = 1 from z) (by decide), fun _ z => absurd (show (0 : Nat) = 2 from z) (by decide), fun _ _ z => absurd (show (0 : Nat) = 1 from z) (by decide), fun _ => h⟩
/-! the numbers that pick -/
theorem lcW_n (x : Int32) : (x * 1103515245 + 12345).toBitVec.toNat = lcN x.toBitVec.toNat := by
  unfold lcN
  rw [Int32.toBitVec_add, Int32.toBitVec_mul, BitVec.toNat_add, BitVec.toNat_mul]
  show (x.toBitVec.toNat * 1103515245 % 2 ^ 32 + 12345) % 2 ^ 32 = _
  omega
theorem ush_n (x : Int32) : (x.toUInt32 >>> (Int32.toUInt32 (nI 16) &&& Int32.toUInt32 31)).toInt32 = nI (x.toBitVec.toNat / 65536) := by
  apply Int32.toBitVec_inj.mp
  apply BitVec.eq_of_toNat_eq
  show ((x.toUInt32 >>> (Int32.toUInt32 (nI 16) &&& Int32.toUInt32 31)).toInt32).toBitVec.toNat = (nI (x.toBitVec.toNat / 65536)).toBitVec.toNat
  have h1 : (Int32.toUInt32 (nI 16) &&& Int32.toUInt32 31) = 16 := by decide
  rw [h1]
  have h2 : ((x.toUInt32 >>> (16 : UInt32)).toInt32).toBitVec.toNat = x.toBitVec.toNat / 65536 := by
    show (x.toUInt32 >>> (16 : UInt32)).toNat = _
    rw [UInt32.toNat_shiftRight]
    show x.toBitVec.toNat >>> (16 % 32) = _
    rw [Nat.shiftRight_eq_div_pow]
  have h3 : (nI (x.toBitVec.toNat / 65536)).toBitVec.toNat = x.toBitVec.toNat / 65536 := by
    show (BitVec.ofNat 32 (x.toBitVec.toNat / 65536)).toNat = _
    rw [BitVec.toNat_ofNat]
    have := x.toBitVec.isLt
    omega
  rw [h2, h3]
