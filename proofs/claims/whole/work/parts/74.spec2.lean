/-! ===== the plain machine: workers, rows, tasks ===== -/
abbrev RnS : Type := (TbS) × (Nat → AtS) × (Nat → Nat) × (Nat → Nat) × (Nat → Nat) × (Nat) × (Nat → Nat) × (Nat → Nat) × (Nat → Nat) × (Nat → Nat) × (Nat → Nat) × (Nat → Nat) × (Nat) × (Nat) × (Bool) × (Nat) × (Nat) × (Nat) × (Nat) × (Nat → Nat) × (Nat → Option Nat)
def mkRnS (T : TbS) (am : Nat → AtS) (bg : Nat → Nat) (dd : Nat → Nat) (da : Nat → Nat) (al : Nat) (hw : Nat → Nat) (aw : Nat → Nat) (nm : Nat → Nat) (tk : Nat → Nat) (tc : Nat → Nat) (tn : Nat → Nat) (rr : Nat) (lr : Nat) (fe : Bool) (lk : Nat) (ud : Nat) (gu : Nat) (cn : Nat) (cc : Nat → Nat) (co : Nat → Option Nat) : RnS := (T, am, bg, dd, da, al, hw, aw, nm, tk, tc, tn, rr, lr, fe, lk, ud, gu, cn, cc, co)
def RnS.T (z : RnS) : TbS := z.1
def RnS.am (z : RnS) : Nat → AtS := z.2.1
def RnS.bg (z : RnS) : Nat → Nat := z.2.2.1
def RnS.dd (z : RnS) : Nat → Nat := z.2.2.2.1
def RnS.da (z : RnS) : Nat → Nat := z.2.2.2.2.1
def RnS.al (z : RnS) : Nat := z.2.2.2.2.2.1
def RnS.hw (z : RnS) : Nat → Nat := z.2.2.2.2.2.2.1
def RnS.aw (z : RnS) : Nat → Nat := z.2.2.2.2.2.2.2.1
def RnS.nm (z : RnS) : Nat → Nat := z.2.2.2.2.2.2.2.2.1
def RnS.tk (z : RnS) : Nat → Nat := z.2.2.2.2.2.2.2.2.2.1
def RnS.tc (z : RnS) : Nat → Nat := z.2.2.2.2.2.2.2.2.2.2.1
def RnS.tn (z : RnS) : Nat → Nat := z.2.2.2.2.2.2.2.2.2.2.2.1
def RnS.rr (z : RnS) : Nat := z.2.2.2.2.2.2.2.2.2.2.2.2.1
def RnS.lr (z : RnS) : Nat := z.2.2.2.2.2.2.2.2.2.2.2.2.2.1
def RnS.fe (z : RnS) : Bool := z.2.2.2.2.2.2.2.2.2.2.2.2.2.2.1
def RnS.lk (z : RnS) : Nat := z.2.2.2.2.2.2.2.2.2.2.2.2.2.2.2.1
def RnS.ud (z : RnS) : Nat := z.2.2.2.2.2.2.2.2.2.2.2.2.2.2.2.2.1
def RnS.gu (z : RnS) : Nat := z.2.2.2.2.2.2.2.2.2.2.2.2.2.2.2.2.2.1
def RnS.cn (z : RnS) : Nat := z.2.2.2.2.2.2.2.2.2.2.2.2.2.2.2.2.2.2.1
def RnS.cc (z : RnS) : Nat → Nat := z.2.2.2.2.2.2.2.2.2.2.2.2.2.2.2.2.2.2.2.1
def RnS.co (z : RnS) : Nat → Option Nat := z.2.2.2.2.2.2.2.2.2.2.2.2.2.2.2.2.2.2.2.2
theorem mkRnS_T {T : TbS} {am : Nat → AtS} {bg : Nat → Nat} {dd : Nat → Nat} {da : Nat → Nat} {al : Nat} {hw : Nat → Nat} {aw : Nat → Nat} {nm : Nat → Nat} {tk : Nat → Nat} {tc : Nat → Nat} {tn : Nat → Nat} {rr : Nat} {lr : Nat} {fe : Bool} {lk : Nat} {ud : Nat} {gu : Nat} {cn : Nat} {cc : Nat → Nat} {co : Nat → Option Nat} : (mkRnS T am bg dd da al hw aw nm tk tc tn rr lr fe lk ud gu cn cc co).T = T := rfl
theorem mkRnS_am {T : TbS} {am : Nat → AtS} {bg : Nat → Nat} {dd : Nat → Nat} {da : Nat → Nat} {al : Nat} {hw : Nat → Nat} {aw : Nat → Nat} {nm : Nat → Nat} {tk : Nat → Nat} {tc : Nat → Nat} {tn : Nat → Nat} {rr : Nat} {lr : Nat} {fe : Bool} {lk : Nat} {ud : Nat} {gu : Nat} {cn : Nat} {cc : Nat → Nat} {co : Nat → Option Nat} : (mkRnS T am bg dd da al hw aw nm tk tc tn rr lr fe lk ud gu cn cc co).am = am := rfl
theorem mkRnS_bg {T : TbS} {am : Nat → AtS} {bg : Nat → Nat} {dd : Nat → Nat} {da : Nat → Nat} {al : Nat} {hw : Nat → Nat} {aw : Nat → Nat} {nm : Nat → Nat} {tk : Nat → Nat} {tc : Nat → Nat} {tn : Nat → Nat} {rr : Nat} {lr : Nat} {fe : Bool} {lk : Nat} {ud : Nat} {gu : Nat} {cn : Nat} {cc : Nat → Nat} {co : Nat → Option Nat} : (mkRnS T am bg dd da al hw aw nm tk tc tn rr lr fe lk ud gu cn cc co).bg = bg := rfl
theorem mkRnS_dd {T : TbS} {am : Nat → AtS} {bg : Nat → Nat} {dd : Nat → Nat} {da : Nat → Nat} {al : Nat} {hw : Nat → Nat} {aw : Nat → Nat} {nm : Nat → Nat} {tk : Nat → Nat} {tc : Nat → Nat} {tn : Nat → Nat} {rr : Nat} {lr : Nat} {fe : Bool} {lk : Nat} {ud : Nat} {gu : Nat} {cn : Nat} {cc : Nat → Nat} {co : Nat → Option Nat} : (mkRnS T am bg dd da al hw aw nm tk tc tn rr lr fe lk ud gu cn cc co).dd = dd := rfl
theorem mkRnS_da {T : TbS} {am : Nat → AtS} {bg : Nat → Nat} {dd : Nat → Nat} {da : Nat → Nat} {al : Nat} {hw : Nat → Nat} {aw : Nat → Nat} {nm : Nat → Nat} {tk : Nat → Nat} {tc : Nat → Nat} {tn : Nat → Nat} {rr : Nat} {lr : Nat} {fe : Bool} {lk : Nat} {ud : Nat} {gu : Nat} {cn : Nat} {cc : Nat → Nat} {co : Nat → Option Nat} : (mkRnS T am bg dd da al hw aw nm tk tc tn rr lr fe lk ud gu cn cc co).da = da := rfl
theorem mkRnS_al {T : TbS} {am : Nat → AtS} {bg : Nat → Nat} {dd : Nat → Nat} {da : Nat → Nat} {al : Nat} {hw : Nat → Nat} {aw : Nat → Nat} {nm : Nat → Nat} {tk : Nat → Nat} {tc : Nat → Nat} {tn : Nat → Nat} {rr : Nat} {lr : Nat} {fe : Bool} {lk : Nat} {ud : Nat} {gu : Nat} {cn : Nat} {cc : Nat → Nat} {co : Nat → Option Nat} : (mkRnS T am bg dd da al hw aw nm tk tc tn rr lr fe lk ud gu cn cc co).al = al := rfl
theorem mkRnS_hw {T : TbS} {am : Nat → AtS} {bg : Nat → Nat} {dd : Nat → Nat} {da : Nat → Nat} {al : Nat} {hw : Nat → Nat} {aw : Nat → Nat} {nm : Nat → Nat} {tk : Nat → Nat} {tc : Nat → Nat} {tn : Nat → Nat} {rr : Nat} {lr : Nat} {fe : Bool} {lk : Nat} {ud : Nat} {gu : Nat} {cn : Nat} {cc : Nat → Nat} {co : Nat → Option Nat} : (mkRnS T am bg dd da al hw aw nm tk tc tn rr lr fe lk ud gu cn cc co).hw = hw := rfl
theorem mkRnS_aw {T : TbS} {am : Nat → AtS} {bg : Nat → Nat} {dd : Nat → Nat} {da : Nat → Nat} {al : Nat} {hw : Nat → Nat} {aw : Nat → Nat} {nm : Nat → Nat} {tk : Nat → Nat} {tc : Nat → Nat} {tn : Nat → Nat} {rr : Nat} {lr : Nat} {fe : Bool} {lk : Nat} {ud : Nat} {gu : Nat} {cn : Nat} {cc : Nat → Nat} {co : Nat → Option Nat} : (mkRnS T am bg dd da al hw aw nm tk tc tn rr lr fe lk ud gu cn cc co).aw = aw := rfl
theorem mkRnS_nm {T : TbS} {am : Nat → AtS} {bg : Nat → Nat} {dd : Nat → Nat} {da : Nat → Nat} {al : Nat} {hw : Nat → Nat} {aw : Nat → Nat} {nm : Nat → Nat} {tk : Nat → Nat} {tc : Nat → Nat} {tn : Nat → Nat} {rr : Nat} {lr : Nat} {fe : Bool} {lk : Nat} {ud : Nat} {gu : Nat} {cn : Nat} {cc : Nat → Nat} {co : Nat → Option Nat} : (mkRnS T am bg dd da al hw aw nm tk tc tn rr lr fe lk ud gu cn cc co).nm = nm := rfl
theorem mkRnS_tk {T : TbS} {am : Nat → AtS} {bg : Nat → Nat} {dd : Nat → Nat} {da : Nat → Nat} {al : Nat} {hw : Nat → Nat} {aw : Nat → Nat} {nm : Nat → Nat} {tk : Nat → Nat} {tc : Nat → Nat} {tn : Nat → Nat} {rr : Nat} {lr : Nat} {fe : Bool} {lk : Nat} {ud : Nat} {gu : Nat} {cn : Nat} {cc : Nat → Nat} {co : Nat → Option Nat} : (mkRnS T am bg dd da al hw aw nm tk tc tn rr lr fe lk ud gu cn cc co).tk = tk := rfl
theorem mkRnS_tc {T : TbS} {am : Nat → AtS} {bg : Nat → Nat} {dd : Nat → Nat} {da : Nat → Nat} {al : Nat} {hw : Nat → Nat} {aw : Nat → Nat} {nm : Nat → Nat} {tk : Nat → Nat} {tc : Nat → Nat} {tn : Nat → Nat} {rr : Nat} {lr : Nat} {fe : Bool} {lk : Nat} {ud : Nat} {gu : Nat} {cn : Nat} {cc : Nat → Nat} {co : Nat → Option Nat} : (mkRnS T am bg dd da al hw aw nm tk tc tn rr lr fe lk ud gu cn cc co).tc = tc := rfl
theorem mkRnS_tn {T : TbS} {am : Nat → AtS} {bg : Nat → Nat} {dd : Nat → Nat} {da : Nat → Nat} {al : Nat} {hw : Nat → Nat} {aw : Nat → Nat} {nm : Nat → Nat} {tk : Nat → Nat} {tc : Nat → Nat} {tn : Nat → Nat} {rr : Nat} {lr : Nat} {fe : Bool} {lk : Nat} {ud : Nat} {gu : Nat} {cn : Nat} {cc : Nat → Nat} {co : Nat → Option Nat} : (mkRnS T am bg dd da al hw aw nm tk tc tn rr lr fe lk ud gu cn cc co).tn = tn := rfl
theorem mkRnS_rr {T : TbS} {am : Nat → AtS} {bg : Nat → Nat} {dd : Nat → Nat} {da : Nat → Nat} {al : Nat} {hw : Nat → Nat} {aw : Nat → Nat} {nm : Nat → Nat} {tk : Nat → Nat} {tc : Nat → Nat} {tn : Nat → Nat} {rr : Nat} {lr : Nat} {fe : Bool} {lk : Nat} {ud : Nat} {gu : Nat} {cn : Nat} {cc : Nat → Nat} {co : Nat → Option Nat} : (mkRnS T am bg dd da al hw aw nm tk tc tn rr lr fe lk ud gu cn cc co).rr = rr := rfl
theorem mkRnS_lr {T : TbS} {am : Nat → AtS} {bg : Nat → Nat} {dd : Nat → Nat} {da : Nat → Nat} {al : Nat} {hw : Nat → Nat} {aw : Nat → Nat} {nm : Nat → Nat} {tk : Nat → Nat} {tc : Nat → Nat} {tn : Nat → Nat} {rr : Nat} {lr : Nat} {fe : Bool} {lk : Nat} {ud : Nat} {gu : Nat} {cn : Nat} {cc : Nat → Nat} {co : Nat → Option Nat} : (mkRnS T am bg dd da al hw aw nm tk tc tn rr lr fe lk ud gu cn cc co).lr = lr := rfl
theorem mkRnS_fe {T : TbS} {am : Nat → AtS} {bg : Nat → Nat} {dd : Nat → Nat} {da : Nat → Nat} {al : Nat} {hw : Nat → Nat} {aw : Nat → Nat} {nm : Nat → Nat} {tk : Nat → Nat} {tc : Nat → Nat} {tn : Nat → Nat} {rr : Nat} {lr : Nat} {fe : Bool} {lk : Nat} {ud : Nat} {gu : Nat} {cn : Nat} {cc : Nat → Nat} {co : Nat → Option Nat} : (mkRnS T am bg dd da al hw aw nm tk tc tn rr lr fe lk ud gu cn cc co).fe = fe := rfl
theorem mkRnS_lk {T : TbS} {am : Nat → AtS} {bg : Nat → Nat} {dd : Nat → Nat} {da : Nat → Nat} {al : Nat} {hw : Nat → Nat} {aw : Nat → Nat} {nm : Nat → Nat} {tk : Nat → Nat} {tc : Nat → Nat} {tn : Nat → Nat} {rr : Nat} {lr : Nat} {fe : Bool} {lk : Nat} {ud : Nat} {gu : Nat} {cn : Nat} {cc : Nat → Nat} {co : Nat → Option Nat} : (mkRnS T am bg dd da al hw aw nm tk tc tn rr lr fe lk ud gu cn cc co).lk = lk := rfl
theorem mkRnS_ud {T : TbS} {am : Nat → AtS} {bg : Nat → Nat} {dd : Nat → Nat} {da : Nat → Nat} {al : Nat} {hw : Nat → Nat} {aw : Nat → Nat} {nm : Nat → Nat} {tk : Nat → Nat} {tc : Nat → Nat} {tn : Nat → Nat} {rr : Nat} {lr : Nat} {fe : Bool} {lk : Nat} {ud : Nat} {gu : Nat} {cn : Nat} {cc : Nat → Nat} {co : Nat → Option Nat} : (mkRnS T am bg dd da al hw aw nm tk tc tn rr lr fe lk ud gu cn cc co).ud = ud := rfl
theorem mkRnS_gu {T : TbS} {am : Nat → AtS} {bg : Nat → Nat} {dd : Nat → Nat} {da : Nat → Nat} {al : Nat} {hw : Nat → Nat} {aw : Nat → Nat} {nm : Nat → Nat} {tk : Nat → Nat} {tc : Nat → Nat} {tn : Nat → Nat} {rr : Nat} {lr : Nat} {fe : Bool} {lk : Nat} {ud : Nat} {gu : Nat} {cn : Nat} {cc : Nat → Nat} {co : Nat → Option Nat} : (mkRnS T am bg dd da al hw aw nm tk tc tn rr lr fe lk ud gu cn cc co).gu = gu := rfl
theorem mkRnS_cn {T : TbS} {am : Nat → AtS} {bg : Nat → Nat} {dd : Nat → Nat} {da : Nat → Nat} {al : Nat} {hw : Nat → Nat} {aw : Nat → Nat} {nm : Nat → Nat} {tk : Nat → Nat} {tc : Nat → Nat} {tn : Nat → Nat} {rr : Nat} {lr : Nat} {fe : Bool} {lk : Nat} {ud : Nat} {gu : Nat} {cn : Nat} {cc : Nat → Nat} {co : Nat → Option Nat} : (mkRnS T am bg dd da al hw aw nm tk tc tn rr lr fe lk ud gu cn cc co).cn = cn := rfl
theorem mkRnS_cc {T : TbS} {am : Nat → AtS} {bg : Nat → Nat} {dd : Nat → Nat} {da : Nat → Nat} {al : Nat} {hw : Nat → Nat} {aw : Nat → Nat} {nm : Nat → Nat} {tk : Nat → Nat} {tc : Nat → Nat} {tn : Nat → Nat} {rr : Nat} {lr : Nat} {fe : Bool} {lk : Nat} {ud : Nat} {gu : Nat} {cn : Nat} {cc : Nat → Nat} {co : Nat → Option Nat} : (mkRnS T am bg dd da al hw aw nm tk tc tn rr lr fe lk ud gu cn cc co).cc = cc := rfl
theorem mkRnS_co {T : TbS} {am : Nat → AtS} {bg : Nat → Nat} {dd : Nat → Nat} {da : Nat → Nat} {al : Nat} {hw : Nat → Nat} {aw : Nat → Nat} {nm : Nat → Nat} {tk : Nat → Nat} {tc : Nat → Nat} {tn : Nat → Nat} {rr : Nat} {lr : Nat} {fe : Bool} {lk : Nat} {ud : Nat} {gu : Nat} {cn : Nat} {cc : Nat → Nat} {co : Nat → Option Nat} : (mkRnS T am bg dd da al hw aw nm tk tc tn rr lr fe lk ud gu cn cc co).co = co := rfl
def wrA (A : AtS) (k : Nat) : Bool := A.wb k && !A.fl
def noteS (S : RnS) (c : Nat) (o : Option Nat) : RnS := (mkRnS S.T S.am S.bg S.dd S.da S.al S.hw S.aw S.nm S.tk S.tc S.tn S.rr S.lr S.fe S.lk S.ud S.gu (S.cn + 1) (fup S.cc S.cn c) (fup S.co S.cn o))
def toLookS (S : RnS) (w c : Nat) : RnS := (mkRnS S.T S.am S.bg S.dd S.da S.al S.hw S.aw S.nm (fup S.tk w 2) (fup S.tc w c) (fup S.tn w (S.nm c)) S.rr S.lr S.fe S.lk S.ud S.gu S.cn S.cc S.co)
def toRunS (S : RnS) (w c : Nat) : RnS := (mkRnS S.T (fup S.am c at0) (fup S.bg c (S.bg c + 1)) (fup S.dd c 0) S.da S.al (fup S.hw c 1) S.aw S.nm (fup S.tk w 1) (fup S.tc w c) S.tn S.rr S.lr S.fe S.lk S.ud S.gu S.cn S.cc S.co)
def upS (S : RnS) (w c j : Nat) : RnS := noteS (mkRnS S.T S.am S.bg S.dd S.da S.al (fup S.hw c 3) (fup S.aw c j) S.nm (fup S.tk w 0) S.tc S.tn S.rr S.lr S.fe S.lk S.ud (S.gu + 1) S.cn S.cc S.co) c (some j)
def pubT (T : TbS) (c : Nat) (A : AtS) (num : Nat) : TbS := (mkTbS (fun j k => if j = c then (cond (wrA A k) 1 0) else T.st j k) (fun j k => if j = c ∧ wrA A k = true then num else T.nm j k) (fun j k => if j = c ∧ wrA A k = true then A.wv k else T.vl j k) T.bf)
def freshA (T : TbS) (c : Nat) (A : AtS) : Nat → Bool
  | 0 => false
  | k + 1 => freshA T c A k || (wrA A k && T.st c k == 0)
abbrev wokeS (S : RnS) (c i : Nat) : Prop := S.hw i = 3 ∧ S.aw i = c
/-- the run row after those of the first i calls that wait for c are woken -/
def wakeR (S : RnS) (c : Nat) : Nat → Nat → Nat
  | 0, r => r
  | i + 1, r => if wokeS S c i then min (wakeR S c i r) i else wakeR S c i r
def wakeS (S : RnS) (c n : Nat) : RnS := (mkRnS S.T S.am S.bg S.dd S.da S.al (fun i => if i < n ∧ wokeS S c i then 0 else S.hw i) S.aw S.nm S.tk S.tc S.tn (wakeR S c n S.rr) S.lr S.fe S.lk S.ud S.gu S.cn S.cc S.co)
def end1S (S : RnS) (w c n : Nat) : RnS := wakeS (mkRnS (pubT S.T c (S.am c) (S.nm c)) S.am S.bg S.dd S.da S.al (fup S.hw c 2) S.aw S.nm (fup S.tk w 0) S.tc S.tn S.rr S.lr S.fe S.lk S.ud S.gu S.cn S.cc S.co) c n
def endS (B : BkS) (S : RnS) (w c : Nat) : RnS :=
  if c < S.lr then (if freshA S.T c (S.am c) 32 = true then (mkRnS (end1S S w c B.n).T (end1S S w c B.n).am (end1S S w c B.n).bg (end1S S w c B.n).dd (end1S S w c B.n).da (end1S S w c B.n).al (end1S S w c B.n).hw (end1S S w c B.n).aw (end1S S w c B.n).nm (end1S S w c B.n).tk (end1S S w c B.n).tc (end1S S w c B.n).tn (end1S S w c B.n).rr (c) (end1S S w c B.n).fe (end1S S w c B.n).lk (end1S S w c B.n).ud (end1S S w c B.n).gu (end1S S w c B.n).cn (end1S S w c B.n).cc (end1S S w c B.n).co) else toLookS (end1S S w c B.n) w c) else end1S S w c B.n
def actS (S : RnS) (c : Nat) (A : AtS) : RnS := (mkRnS S.T (fup S.am c A) S.bg (fup S.dd c (S.dd c + 1)) (fup S.da c (S.da c + 1)) (S.al + 1) S.hw S.aw S.nm S.tk S.tc S.tn S.rr S.lr S.fe S.lk S.ud S.gu S.cn S.cc S.co)
def runS (B : BkS) (S : RnS) (w : Nat) : RnS :=
  if overA B (S.tc w) (S.am (S.tc w)) then endS B S w (S.tc w)
  else (match doA B S.T (S.tc w) (S.am (S.tc w)) with
    | (some j, _) => upS S w (S.tc w) j
    | (none, A) => if overA B (S.tc w) A then endS B (actS S (S.tc w) A) w (S.tc w) else actS S (S.tc w) A)
abbrev chA (T : TbS) (c : Nat) (A : AtS) (i : Nat) : Prop := wbT T (A.kl i) c ≠ A.kw i ∨ isPh T (A.kl i) (wbT T (A.kl i) c) = true ∨ (wbT T (A.kl i) c ≠ none ∧ snT T (A.kl i) (wbT T (A.kl i) c) ≠ A.kr i)
/-- the first of the m ones from i on that is seen otherwise -/
def fcA (T : TbS) (c : Nat) (A : AtS) : Nat → Nat → Option Nat
  | 0, _ => none
  | m + 1, i => if chA T c A i then some i else fcA T c A m (i + 1)
def dbtT (T : TbS) (c : Nat) : TbS := (mkTbS (fun j k => if j = c ∧ T.st c k ≠ 0 then 2 else T.st j k) T.nm T.vl T.bf)
def undoS (bd : Nat) (S : RnS) (c : Nat) : RnS := (mkRnS (dbtT S.T c) S.am S.bg S.dd S.da S.al (fup S.hw c 0) S.aw (fup S.nm c (S.nm c + 1)) S.tk S.tc S.tn S.rr (if bd ≤ S.nm c + 1 then S.lr else min S.lr (c + 1)) (decide (bd ≤ S.nm c + 1)) S.lk (S.ud + 1) S.gu S.cn S.cc S.co)
def redoS (bd : Nat) (S : RnS) (w c : Nat) : RnS := if (undoS bd S c).fe = false ∧ c < S.rr then toRunS (undoS bd S c) w c else undoS bd S c
def lookS (bd : Nat) (S : RnS) (w : Nat) : RnS :=
  if S.hw (S.tc w) = 2 ∧ S.nm (S.tc w) = S.tn w then
    (match fcA S.T (S.tc w) (S.am (S.tc w)) (S.am (S.tc w)).kn 0 with
      | none => (mkRnS S.T S.am S.bg S.dd S.da S.al S.hw S.aw S.nm (fup S.tk w 0) S.tc S.tn S.rr S.lr S.fe (S.lk + 1) S.ud S.gu S.cn S.cc S.co)
      | some i => redoS bd (noteS (mkRnS S.T S.am S.bg S.dd S.da S.al S.hw S.aw S.nm (fup S.tk w 0) S.tc S.tn S.rr S.lr S.fe (S.lk + 1) S.ud S.gu S.cn S.cc S.co) (S.tc w) (wbT S.T ((S.am (S.tc w)).kl i) (S.tc w))) w (S.tc w))
  else (mkRnS S.T S.am S.bg S.dd S.da S.al S.hw S.aw S.nm (fup S.tk w 0) S.tc S.tn S.rr S.lr S.fe (S.lk + 1) S.ud S.gu S.cn S.cc S.co)
def takeS (B : BkS) (S : RnS) (w : Nat) : RnS :=
  if S.lr < S.rr then (if S.hw S.lr = 2 then toLookS (mkRnS S.T S.am S.bg S.dd S.da S.al S.hw S.aw S.nm S.tk S.tc S.tn S.rr (S.lr + 1) S.fe S.lk S.ud S.gu S.cn S.cc S.co) w S.lr else (mkRnS S.T S.am S.bg S.dd S.da S.al S.hw S.aw S.nm S.tk S.tc S.tn S.rr (S.lr + 1) S.fe S.lk S.ud S.gu S.cn S.cc S.co))
  else if S.rr < B.n then (if S.hw S.rr = 0 then toRunS (mkRnS S.T S.am S.bg S.dd S.da S.al S.hw S.aw S.nm S.tk S.tc S.tn (S.rr + 1) S.lr S.fe S.lk S.ud S.gu S.cn S.cc S.co) w S.rr else (mkRnS S.T S.am S.bg S.dd S.da S.al S.hw S.aw S.nm S.tk S.tc S.tn (S.rr + 1) S.lr S.fe S.lk S.ud S.gu S.cn S.cc S.co))
  else S
def stepS (B : BkS) (bd : Nat) (S : RnS) (w : Nat) : RnS := if S.tk w = 1 then runS B S w else if S.tk w = 2 then lookS bd S w else takeS B S w
abbrev doneS (B : BkS) (sz : Nat) (S : RnS) : Prop := B.n ≤ S.rr ∧ B.n ≤ S.lr ∧ ∀ w, w < sz → S.tk w = 0
abbrev SOK (B : BkS) (sz : Nat) (S : RnS) : Prop := (∀ c, S.hw c ≤ 3) ∧ (∀ c, S.hw c = 3 → S.aw c < 16) ∧ (∀ c, S.nm c ≤ 100) ∧ (∀ w, S.tk w ≤ 2) ∧ (∀ w, S.tk w ≠ 0 → S.tc w < B.n ∧ 1 ≤ S.bg (S.tc w)) ∧ (∀ w, S.tk w = 2 → S.tn w ≤ 100) ∧ (S.rr ≤ B.n) ∧ (S.lr ≤ B.n) ∧ (∀ c, c < 16 → 1 ≤ S.bg c → AtOK c (S.am c)) ∧ (∀ c, c < B.n → (S.hw c = 0 ∧ S.rr ≤ c) ∨ 1 ≤ S.bg c) ∧ (∀ j k, S.T.st j k ≤ 2) ∧ (∀ j k, S.T.nm j k ≤ 100)
theorem SOK.hw {B : BkS} {sz : Nat} {S : RnS} (h : SOK B sz S) : ∀ c, S.hw c ≤ 3 := h.1
theorem SOK.aw {B : BkS} {sz : Nat} {S : RnS} (h : SOK B sz S) : ∀ c, S.hw c = 3 → S.aw c < 16 := h.2.1
theorem SOK.nm {B : BkS} {sz : Nat} {S : RnS} (h : SOK B sz S) : ∀ c, S.nm c ≤ 100 := h.2.2.1
theorem SOK.tk {B : BkS} {sz : Nat} {S : RnS} (h : SOK B sz S) : ∀ w, S.tk w ≤ 2 := h.2.2.2.1
theorem SOK.tc {B : BkS} {sz : Nat} {S : RnS} (h : SOK B sz S) : ∀ w, S.tk w ≠ 0 → S.tc w < B.n ∧ 1 ≤ S.bg (S.tc w) := h.2.2.2.2.1
theorem SOK.tn {B : BkS} {sz : Nat} {S : RnS} (h : SOK B sz S) : ∀ w, S.tk w = 2 → S.tn w ≤ 100 := h.2.2.2.2.2.1
theorem SOK.rr {B : BkS} {sz : Nat} {S : RnS} (h : SOK B sz S) : S.rr ≤ B.n := h.2.2.2.2.2.2.1
theorem SOK.lr {B : BkS} {sz : Nat} {S : RnS} (h : SOK B sz S) : S.lr ≤ B.n := h.2.2.2.2.2.2.2.1
theorem SOK.am {B : BkS} {sz : Nat} {S : RnS} (h : SOK B sz S) : ∀ c, c < 16 → 1 ≤ S.bg c → AtOK c (S.am c) := h.2.2.2.2.2.2.2.2.1
theorem SOK.bg {B : BkS} {sz : Nat} {S : RnS} (h : SOK B sz S) : ∀ c, c < B.n → (S.hw c = 0 ∧ S.rr ≤ c) ∨ 1 ≤ S.bg c := h.2.2.2.2.2.2.2.2.2.1
theorem SOK.st {B : BkS} {sz : Nat} {S : RnS} (h : SOK B sz S) : ∀ j k, S.T.st j k ≤ 2 := h.2.2.2.2.2.2.2.2.2.2.1
theorem SOK.tn1 {B : BkS} {sz : Nat} {S : RnS} (h : SOK B sz S) : ∀ j k, S.T.nm j k ≤ 100 := h.2.2.2.2.2.2.2.2.2.2.2
theorem wakeR_le {S : RnS} {c : Nat} : ∀ i r, wakeR S c i r ≤ r
  | 0, r => Nat.le_refl r
  | i + 1, r => by
    unfold wakeR
    have := wakeR_le (S := S) (c := c) i r
    split
    · omega
    · exact this
theorem wakeR_lt {S : RnS} {c : Nat} : ∀ i r d, d < i → wokeS S c d → wakeR S c i r ≤ d
  | 0, r, d, h, _ => absurd h (Nat.not_lt_zero _)
  | i + 1, r, d, h, hw => by
    unfold wakeR
    by_cases e : d = i
    · subst e
      rw [if_pos hw]
      omega
    · have := wakeR_lt i r d (by omega) hw
      split
      · omega
      · exact this
theorem doA_some {B : BkS} {T : TbS} {c j : Nat} {A A' : AtS} (h : doA B T c A = (some j, A')) : A' = A ∧ j < c ∧ ∃ k, k < 32 ∧ T.st j k = 2 := by
  unfold doA at h
  split at h
  · cases hr : readA T c (B.lf (c * 12 + A.p)) (lfA (B.vl (c * 12 + A.p) + A.rg (B.rt (c * 12 + A.p)))) A with
    | mk o A1 =>
      rw [hr] at h
      cases o with
      | none => cases h
      | some j1 =>
        obtain ⟨h1, h2⟩ := Prod.mk.inj h
        cases h1
        obtain ⟨r1, r2, r3⟩ := readA_some hr
        exact ⟨h2.symm.trans r1, (wbT_l r2).1, _, lfA_l _, r3⟩
  · cases h
