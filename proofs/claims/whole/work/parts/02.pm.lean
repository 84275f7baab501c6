/-! ===== the pure machine: values are ints, longs and numbers of cells; the store is what the cells hold; pm_run is a method's code run over them ===== -/
abbrev pSV : Type := Int32 ⊕ (Int64 ⊕ Nat)
abbrev pST : Type := (Nat → Nat → Int32) × (Nat → Nat → Int64)
abbrev pLS : Type := List (Nat × pSV)
abbrev pRT : Type := pST × Option pSV
abbrev pNX : Type := Nat × (pLS × (List pSV × pST))
abbrev pSH : Type := Nat → Nat ⊕ (Nat × Nat)
abbrev pFN : Type := pST → List pSV → Option pRT
abbrev pCL : Type := Nat → Option (Nat × (Option Nat × pFN))
def pm_v (lay : Nat → Nat) (v : pSV) : Value := match v with
  | .inl x => .int x
  | .inr (.inl x) => .long x
  | .inr (.inr i) => .ref (lay i)
def pm_w (v : pSV) : Nat := match v with
  | .inl _ => 1
  | .inr (.inl _) => 2
  | .inr (.inr _) => 1
/-- the kinds of the fields: 0 int, 1 boolean, 2 long, 3 a final int, d + 4 a cell that is d further on -/
def pm_fk (ci : Nat) : List Nat := match ci with
  | 0 => [3, 0, 0, 0, 1, 0, 0, 0, 5, 6, 0, 0, 0, 7, 8, 9, 10, 11]
  | 1 => [5, 10, 0]
  | 2 => [0, 5, 6, 7, 8, 9]
  | 3 => [0, 5, 6]
  | 4 => [5, 6, 7, 8]
  | 5 => [5, 140, 0, 0, 0, 0, 1, 0, 0, 0, 0, 143, 144, 145, 146, 147, 148]
  | 6 => [5, 6, 12, 157, 0]
  | 7 => [5, 0, 0, 6, 7, 8, 9, 10, 11, 12, 13, 14, 15, 16, 17, 18, 19, 20, 21, 22, 23, 24, 0, 25, 26, 27, 28, 0, 0, 1, 2, 29, 30, 31, 32, 33, 34, 0, 0, 0, 0, 1, 0, 0, 0, 0, 35, 0, 36, 37, 0, 38, 39, 40, 41, 42, 43, 44, 45, 46, 47]
  | _ => []
def pm_fv (lay : Nat → Nat) (σ : pST) (i k q : Nat) : Value := match q with
  | 0 => .int (σ.1 i k)
  | 1 => .int (σ.1 i k)
  | 2 => .long (σ.2 i k)
  | 3 => .int (σ.1 i k)
  | d + 4 => .ref (lay (i + d))
def pm_fs (lay : Nat → Nat) (σ : pST) (i : Nat) : Nat → List Nat → List Value
  | _, [] => []
  | k, q :: l => pm_fv lay σ i k q :: pm_fs lay σ i (k + 1) l
def pm_E (lay : Nat → Nat) (cy : Nat → ClassId) (sh : pSH) (σ : pST) (i : Nat) : va_E := match sh i with
  | .inl ci => .inr (ci, pm_fs lay σ i 0 (pm_fk ci))
  | .inr (0, n) => .inl (cy 0, n, .inl (σ.1 i))
  | .inr (1, n) => .inl (cy 1, n, .inr (.inl (σ.2 i)))
  | .inr (2, n) => .inl (cy 2, n, .inl (σ.1 i))
  | .inr (_, n) => .inl (cy 3, n, .inr (.inr (.inr (.inr (fun j => some (lay (i + 1 + 8 * j)))))))
def pm_W (lay : Nat → Nat) (cy : Nat → ClassId) (sh : pSH) (N : Nat) (σ : pST) : va_W := (List.range N).map (fun i => (lay i, pm_E lay cy sh σ i))
abbrev pm_T (cy : Nat → ClassId) : List (ClassId × FieldType) := [(cy 0, .int), (cy 1, .long), (cy 2, .boolean), (cy 3, .object RX0)]
def pm_ui (I : Nat → Nat → Int32) (i k : Nat) (x : Int32) : Nat → Nat → Int32 := fun a => if a = i then upd (I i) k x else I a
def pm_uj (J : Nat → Nat → Int64) (i k : Nat) (x : Int64) : Nat → Nat → Int64 := fun a => if a = i then vp_updL (J i) k x else J a
-- one step
abbrev pm_go (pc : Nat) (ls : pLS) (st : List pSV) (σ : pST) : Option (pNX ⊕ pRT) := some (.inl (pc, ls, st, σ))
def pm_lk (ls : pLS) (k : Nat) : Option pSV := (ls.find? (fun q => q.1 == k)).map (fun q => q.2)
def pm_ldi (k pc : Nat) (ls : pLS) (st : List pSV) (σ : pST) : Option (pNX ⊕ pRT) := match pm_lk ls k with
  | some (.inl x) => pm_go pc ls (.inl x :: st) σ
  | _ => none
def pm_ldl (k pc : Nat) (ls : pLS) (st : List pSV) (σ : pST) : Option (pNX ⊕ pRT) := match pm_lk ls k with
  | some (.inr (.inl x)) => pm_go pc ls (.inr (.inl x) :: st) σ
  | _ => none
def pm_lda (k pc : Nat) (ls : pLS) (st : List pSV) (σ : pST) : Option (pNX ⊕ pRT) := match pm_lk ls k with
  | some (.inr (.inr x)) => pm_go pc ls (.inr (.inr x) :: st) σ
  | _ => none
def pm_s1 (ls : pLS) (k : Nat) (v : pSV) : pLS := (k, v) :: ls.filter (fun q => !(q.1 == k) && !(q.1 + 1 == k && pm_w q.2 == 2))
def pm_s2 (ls : pLS) (k : Nat) (v : pSV) : pLS := (k, v) :: ls.filter (fun q => !(q.1 == k) && (!(q.1 == k + 1) && !(q.1 + 1 == k && pm_w q.2 == 2)))
def pm_sti (nL k pc : Nat) (ls : pLS) (st : List pSV) (σ : pST) : Option (pNX ⊕ pRT) := match st with
  | .inl x :: r => if k < nL then pm_go pc (pm_s1 ls k (.inl x)) r σ else none
  | _ => none
def pm_sta (nL k pc : Nat) (ls : pLS) (st : List pSV) (σ : pST) : Option (pNX ⊕ pRT) := match st with
  | .inr (.inr x) :: r => if k < nL then pm_go pc (pm_s1 ls k (.inr (.inr x))) r σ else none
  | _ => none
def pm_stl (nL k pc : Nat) (ls : pLS) (st : List pSV) (σ : pST) : Option (pNX ⊕ pRT) := match st with
  | .inr (.inl x) :: r => if k + 1 < nL then pm_go pc (pm_s2 ls k (.inr (.inl x))) r σ else none
  | _ => none
def pm_inc (nL k : Nat) (n : Int) (pc : Nat) (ls : pLS) (st : List pSV) (σ : pST) : Option (pNX ⊕ pRT) := match pm_lk ls k with
  | some (.inl x) => if k < nL then pm_go pc (pm_s1 ls k (.inl (x + Int32.ofInt n))) st σ else none
  | _ => none
def pm_ii (f : Int32 → Int32 → Int32) (pc : Nat) (ls : pLS) (st : List pSV) (σ : pST) : Option (pNX ⊕ pRT) := match st with
  | .inl y :: .inl x :: r => pm_go pc ls (.inl (f x y) :: r) σ
  | _ => none
def pm_ll (f : Int64 → Int64 → Int64) (pc : Nat) (ls : pLS) (st : List pSV) (σ : pST) : Option (pNX ⊕ pRT) := match st with
  | .inr (.inl y) :: .inr (.inl x) :: r => pm_go pc ls (.inr (.inl (f x y)) :: r) σ
  | _ => none
def pm_irem (pc : Nat) (ls : pLS) (st : List pSV) (σ : pST) : Option (pNX ⊕ pRT) := match st with
  | .inl y :: .inl x :: r => if y = 0 then none else pm_go pc ls (.inl (x - x / y * y) :: r) σ
  | _ => none
def pm_lrem (pc : Nat) (ls : pLS) (st : List pSV) (σ : pST) : Option (pNX ⊕ pRT) := match st with
  | .inr (.inl y) :: .inr (.inl x) :: r => if y = 0 then none else pm_go pc ls (.inr (.inl (x - x / y * y)) :: r) σ
  | _ => none
def pm_lcmp (pc : Nat) (ls : pLS) (st : List pSV) (σ : pST) : Option (pNX ⊕ pRT) := match st with
  | .inr (.inl y) :: .inr (.inl x) :: r => pm_go pc ls (.inl (lg_cmp x y) :: r) σ
  | _ => none
def pm_lsh (pc : Nat) (ls : pLS) (st : List pSV) (σ : pST) : Option (pNX ⊕ pRT) := match st with
  | .inl y :: .inr (.inl x) :: r => pm_go pc ls (.inr (.inl (x <<< (y.toInt64 &&& 63))) :: r) σ
  | _ => none
def pm_i2l (pc : Nat) (ls : pLS) (st : List pSV) (σ : pST) : Option (pNX ⊕ pRT) := match st with
  | .inl x :: r => pm_go pc ls (.inr (.inl x.toInt64) :: r) σ
  | _ => none
def pm_l2i (pc : Nat) (ls : pLS) (st : List pSV) (σ : pST) : Option (pNX ⊕ pRT) := match st with
  | .inr (.inl x) :: r => pm_go pc ls (.inl x.toInt32 :: r) σ
  | _ => none
def pm_dup (pc : Nat) (ls : pLS) (st : List pSV) (σ : pST) : Option (pNX ⊕ pRT) := match st with
  | v :: r => if pm_w v = 1 then pm_go pc ls (v :: v :: r) σ else none
  | _ => none
def pm_dup2 (pc : Nat) (ls : pLS) (st : List pSV) (σ : pST) : Option (pNX ⊕ pRT) := match st with
  | v :: u :: r => if pm_w v = 1 ∧ pm_w u = 1 then pm_go pc ls (v :: u :: v :: u :: r) σ else none
  | _ => none
def pm_pop (pc : Nat) (ls : pLS) (st : List pSV) (σ : pST) : Option (pNX ⊕ pRT) := match st with
  | v :: r => if pm_w v = 1 then pm_go pc ls r σ else none
  | _ => none
def pm_j (pc : Nat) (off : Int) (ls : pLS) (st : List pSV) (σ : pST) : Option (pNX ⊕ pRT) := if 0 ≤ (pc : Int) + off then pm_go ((pc : Int) + off).toNat ls st σ else none
def pm_if (f : Int32 → Bool) (off : Int) (pc : Nat) (ls : pLS) (st : List pSV) (σ : pST) : Option (pNX ⊕ pRT) := match st with
  | .inl x :: r => if f x = true then pm_j pc off ls r σ else pm_go (pc + 3) ls r σ
  | _ => none
def pm_ic (f : Int32 → Int32 → Bool) (off : Int) (pc : Nat) (ls : pLS) (st : List pSV) (σ : pST) : Option (pNX ⊕ pRT) := match st with
  | .inl y :: .inl x :: r => if f x y = true then pm_j pc off ls r σ else pm_go (pc + 3) ls r σ
  | _ => none
def pm_tsw (dflt lo hi : Int) (offs : Array Int) (pc : Nat) (ls : pLS) (st : List pSV) (σ : pST) : Option (pNX ⊕ pRT) := match st with
  | .inl x :: r => if x.toInt < lo ∨ hi < x.toInt then pm_j pc dflt ls r σ else (match offs[(x.toInt - lo).toNat]? with
    | some off => pm_j pc off ls r σ
    | none => none)
  | _ => none
def pm_lsw (dflt : Int) (ps : Array (Int × Int)) (pc : Nat) (ls : pLS) (st : List pSV) (σ : pST) : Option (pNX ⊕ pRT) := match st with
  | .inl x :: r => if (ps.toList.zip (ps.toList.drop 1)).all (fun (a, next) => a.1 < next.1) = true then pm_j pc (Op.lookupswitch.offset ps.toList dflt x.toInt) ls r σ else none
  | _ => none
def pm_gf (sh : pSH) (q : Option (Nat × Nat)) (pc : Nat) (ls : pLS) (st : List pSV) (σ : pST) : Option (pNX ⊕ pRT) := match q, st with
  | some (ci, k), .inr (.inr i) :: r => if sh i = .inl ci then (match (pm_fk ci)[k]? with
    | some 0 => pm_go pc ls (.inl (σ.1 i k) :: r) σ
    | some 1 => pm_go pc ls (.inl (σ.1 i k) :: r) σ
    | some 2 => pm_go pc ls (.inr (.inl (σ.2 i k)) :: r) σ
    | some 3 => pm_go pc ls (.inl (σ.1 i k) :: r) σ
    | some (d + 4) => pm_go pc ls (.inr (.inr (i + d)) :: r) σ
    | none => none) else none
  | _, _ => none
def pm_pf (sh : pSH) (q : Option (Nat × Nat)) (pc : Nat) (ls : pLS) (st : List pSV) (σ : pST) : Option (pNX ⊕ pRT) := match q, st with
  | some (ci, k), .inl x :: .inr (.inr i) :: r => if sh i = .inl ci then (match (pm_fk ci)[k]? with
    | some 0 => pm_go pc ls r (pm_ui σ.1 i k x, σ.2)
    | some 1 => if x = 0 ∨ x = 1 then pm_go pc ls r (pm_ui σ.1 i k x, σ.2) else none
    | _ => none) else none
  | some (ci, k), .inr (.inl x) :: .inr (.inr i) :: r => if sh i = .inl ci then (match (pm_fk ci)[k]? with
    | some 2 => pm_go pc ls r (σ.1, pm_uj σ.2 i k x)
    | _ => none) else none
  | _, _ => none
def pm_ial (sh : pSH) (pc : Nat) (ls : pLS) (st : List pSV) (σ : pST) : Option (pNX ⊕ pRT) := match st with
  | .inl j :: .inr (.inr i) :: r => (match sh i with
    | .inr (0, n) => if j < 0 ∨ n ≤ j.toNatClampNeg then none else pm_go pc ls (.inl (σ.1 i j.toNatClampNeg) :: r) σ
    | _ => none)
  | _ => none
def pm_zal (sh : pSH) (pc : Nat) (ls : pLS) (st : List pSV) (σ : pST) : Option (pNX ⊕ pRT) := match st with
  | .inl j :: .inr (.inr i) :: r => (match sh i with
    | .inr (2, n) => if j < 0 ∨ n ≤ j.toNatClampNeg then none else pm_go pc ls (.inl (σ.1 i j.toNatClampNeg) :: r) σ
    | _ => none)
  | _ => none
def pm_lal (sh : pSH) (pc : Nat) (ls : pLS) (st : List pSV) (σ : pST) : Option (pNX ⊕ pRT) := match st with
  | .inl j :: .inr (.inr i) :: r => (match sh i with
    | .inr (1, n) => if j < 0 ∨ n ≤ j.toNatClampNeg then none else pm_go pc ls (.inr (.inl (σ.2 i j.toNatClampNeg)) :: r) σ
    | _ => none)
  | _ => none
def pm_aal (sh : pSH) (pc : Nat) (ls : pLS) (st : List pSV) (σ : pST) : Option (pNX ⊕ pRT) := match st with
  | .inl j :: .inr (.inr i) :: r => (match sh i with
    | .inr (3, n) => if j < 0 ∨ n ≤ j.toNatClampNeg then none else pm_go pc ls (.inr (.inr (i + 1 + 8 * j.toNatClampNeg)) :: r) σ
    | _ => none)
  | _ => none
def pm_ias (sh : pSH) (pc : Nat) (ls : pLS) (st : List pSV) (σ : pST) : Option (pNX ⊕ pRT) := match st with
  | .inl x :: .inl j :: .inr (.inr i) :: r => (match sh i with
    | .inr (0, n) => if j < 0 ∨ n ≤ j.toNatClampNeg then none else pm_go pc ls r (pm_ui σ.1 i j.toNatClampNeg x, σ.2)
    | _ => none)
  | _ => none
def pm_zas (sh : pSH) (pc : Nat) (ls : pLS) (st : List pSV) (σ : pST) : Option (pNX ⊕ pRT) := match st with
  | .inl x :: .inl j :: .inr (.inr i) :: r => (match sh i with
    | .inr (2, n) => if j < 0 ∨ n ≤ j.toNatClampNeg then none else if x = 0 ∨ x = 1 then pm_go pc ls r (pm_ui σ.1 i j.toNatClampNeg x, σ.2) else none
    | _ => none)
  | _ => none
def pm_las (sh : pSH) (pc : Nat) (ls : pLS) (st : List pSV) (σ : pST) : Option (pNX ⊕ pRT) := match st with
  | .inr (.inl x) :: .inl j :: .inr (.inr i) :: r => (match sh i with
    | .inr (1, n) => if j < 0 ∨ n ≤ j.toNatClampNeg then none else pm_go pc ls r (σ.1, pm_uj σ.2 i j.toNatClampNeg x)
    | _ => none)
  | _ => none
def pm_al (sh : pSH) (pc : Nat) (ls : pLS) (st : List pSV) (σ : pST) : Option (pNX ⊕ pRT) := match st with
  | .inr (.inr i) :: r => (match sh i with
    | .inr (0, n) => pm_go pc ls (.inl (Int32.ofNat n) :: r) σ
    | .inr (1, n) => pm_go pc ls (.inl (Int32.ofNat n) :: r) σ
    | _ => none)
  | _ => none
def pm_cs (st : List pSV) : Nat := (st.map pm_w).sum
def pm_rc (sh : pSH) (rc : Option Nat) (vs : List pSV) : Prop := match rc with
  | none => True
  | some ci => ∃ i, vs.head? = some (.inr (.inr i)) ∧ sh i = .inl ci
def pm_call (q : Option (Nat × (Option Nat × pFN))) (st : Bool) (pc : Nat) (ls : pLS) (stk : List pSV) (σ : pST) : Option (pNX ⊕ pRT) := match q with
  | some (a, rc, f) => if a ≤ stk.length ∧ pm_cs (stk.drop a) ≤ 8 ∧ rc.isNone = st then (match f σ (stk.take a).reverse with
    | some (σ', r) => pm_go (pc + 3) ls (r.toList ++ stk.drop a) σ'
    | none => none) else none
  | none => none
def pm_ret (rt : Nat) (k : Nat) (st : List pSV) (σ : pST) : Option (pNX ⊕ pRT) := match rt, k, st with
  | 0, 0, [] => some (.inr (σ, none))
  | 1, 1, [.inl x] => some (.inr (σ, some (.inl x)))
  | 2, 1, [.inl x] => if x = 0 ∨ x = 1 then some (.inr (σ, some (.inl x))) else none
  | 3, 2, [.inr (.inl x)] => some (.inr (σ, some (.inr (.inl x))))
  | _, _, _ => none
def pm_ldc (v : Option (Int32 ⊕ Int64)) (pc : Nat) (ls : pLS) (st : List pSV) (σ : pST) : Option (pNX ⊕ pRT) := match v with
  | some (.inl x) => pm_go pc ls (.inl x :: st) σ
  | _ => none
def pm_ldc2 (v : Option (Int32 ⊕ Int64)) (pc : Nat) (ls : pLS) (st : List pSV) (σ : pST) : Option (pNX ⊕ pRT) := match v with
  | some (.inr x) => pm_go pc ls (.inr (.inl x) :: st) σ
  | _ => none
def pm_ins (sh : pSH) (fld : Nat → Option (Nat × Nat)) (cst : Nat → Option (Int32 ⊕ Int64)) (cal : pCL) (nL rt : Nat) (ins : Instr) (pc : Nat) (ls : pLS) (st : List pSV) (σ : pST) : Option (pNX ⊕ pRT) := match ins with
  | .iconst n => pm_go (pc + 1) ls (.inl (Int32.ofInt n) :: st) σ
  | .bipush n => pm_go (pc + 2) ls (.inl (Int8.ofInt n).toInt32 :: st) σ
  | .sipush n => pm_go (pc + 3) ls (.inl (Int16.ofInt n).toInt32 :: st) σ
  | .lconst n => pm_go (pc + 1) ls (.inr (.inl (Int64.ofNat (n : Nat))) :: st) σ
  | .ldc k => pm_ldc (cst k) (pc + 2) ls st σ
  | .ldc_w k => pm_ldc (cst k) (pc + 3) ls st σ
  | .ldc2_w k => pm_ldc2 (cst k) (pc + 3) ls st σ
  | .iload_n k => pm_ldi k (pc + 1) ls st σ
  | .iload k => pm_ldi k (pc + 2) ls st σ
  | .lload_n k => pm_ldl k (pc + 1) ls st σ
  | .lload k => pm_ldl k (pc + 2) ls st σ
  | .aload_n k => pm_lda k (pc + 1) ls st σ
  | .aload k => pm_lda k (pc + 2) ls st σ
  | .istore_n k => pm_sti nL k (pc + 1) ls st σ
  | .istore k => pm_sti nL k (pc + 2) ls st σ
  | .astore_n k => pm_sta nL k (pc + 1) ls st σ
  | .astore k => pm_sta nL k (pc + 2) ls st σ
  | .lstore k => pm_stl nL k (pc + 2) ls st σ
  | .iinc k n => pm_inc nL k n (pc + 3) ls st σ
  | .iadd => pm_ii (fun x y => x + y) (pc + 1) ls st σ
  | .isub => pm_ii (fun x y => x - y) (pc + 1) ls st σ
  | .imul => pm_ii (fun x y => x * y) (pc + 1) ls st σ
  | .iand => pm_ii (fun x y => x &&& y) (pc + 1) ls st σ
  | .ior => pm_ii (fun x y => x ||| y) (pc + 1) ls st σ
  | .ishl => pm_ii (fun x y => x <<< (y &&& 31)) (pc + 1) ls st σ
  | .iushr => pm_ii (fun x y => (x.toUInt32 >>> (y.toUInt32 &&& Int32.toUInt32 31)).toInt32) (pc + 1) ls st σ
  | .irem => pm_irem (pc + 1) ls st σ
  | .ladd => pm_ll (fun x y => x + y) (pc + 1) ls st σ
  | .lsub => pm_ll (fun x y => x - y) (pc + 1) ls st σ
  | .lmul => pm_ll (fun x y => x * y) (pc + 1) ls st σ
  | .land => pm_ll (fun x y => x &&& y) (pc + 1) ls st σ
  | .lor => pm_ll (fun x y => x ||| y) (pc + 1) ls st σ
  | .lrem => pm_lrem (pc + 1) ls st σ
  | .lcmp => pm_lcmp (pc + 1) ls st σ
  | .lshl => pm_lsh (pc + 1) ls st σ
  | .i2l => pm_i2l (pc + 1) ls st σ
  | .l2i => pm_l2i (pc + 1) ls st σ
  | .dup => pm_dup (pc + 1) ls st σ
  | .dup2 => pm_dup2 (pc + 1) ls st σ
  | .pop => pm_pop (pc + 1) ls st σ
  | .goto off => pm_j pc off ls st σ
  | .ifCond .eq off => pm_if (fun x => decide (x = 0)) off pc ls st σ
  | .ifCond .ne off => pm_if (fun x => decide (¬ x = 0)) off pc ls st σ
  | .ifCond .lt off => pm_if (fun x => decide (x < 0)) off pc ls st σ
  | .ifCond .ge off => pm_if (fun x => decide (0 ≤ x)) off pc ls st σ
  | .ifCond .gt off => pm_if (fun x => decide (0 < x)) off pc ls st σ
  | .ifCond .le off => pm_if (fun x => decide (x ≤ 0)) off pc ls st σ
  | .if_icmp .eq off => pm_ic (fun x y => decide (x = y)) off pc ls st σ
  | .if_icmp .ne off => pm_ic (fun x y => decide (¬ x = y)) off pc ls st σ
  | .if_icmp .lt off => pm_ic (fun x y => decide (x < y)) off pc ls st σ
  | .if_icmp .ge off => pm_ic (fun x y => decide (y ≤ x)) off pc ls st σ
  | .if_icmp .gt off => pm_ic (fun x y => decide (y < x)) off pc ls st σ
  | .if_icmp .le off => pm_ic (fun x y => decide (x ≤ y)) off pc ls st σ
  | .tableswitch dflt lo hi offs => pm_tsw dflt lo hi offs pc ls st σ
  | .lookupswitch dflt ps => pm_lsw dflt ps pc ls st σ
  | .getfield k => pm_gf sh (fld k) (pc + 3) ls st σ
  | .putfield k => pm_pf sh (fld k) (pc + 3) ls st σ
  | .iaload => pm_ial sh (pc + 1) ls st σ
  | .baload => pm_zal sh (pc + 1) ls st σ
  | .laload => pm_lal sh (pc + 1) ls st σ
  | .aaload => pm_aal sh (pc + 1) ls st σ
  | .iastore => pm_ias sh (pc + 1) ls st σ
  | .bastore => pm_zas sh (pc + 1) ls st σ
  | .lastore => pm_las sh (pc + 1) ls st σ
  | .arraylength => pm_al sh (pc + 1) ls st σ
  | .invokevirtual k => pm_call (cal k) false pc ls st σ
  | .invokestatic k => pm_call (cal k) true pc ls st σ
  | .ireturn => pm_ret rt 1 st σ
  | .lreturn => pm_ret rt 2 st σ
  | .return_ => pm_ret rt 0 st σ
  | _ => none
/-- how long an instruction is; 0: of any length, or none that the machine runs -/
def pm_len (ins : Instr) : Nat := match ins with
  | .iconst _ => 1 | .bipush _ => 2 | .sipush _ => 3 | .lconst _ => 1 | .ldc _ => 2 | .ldc_w _ => 3 | .ldc2_w _ => 3
  | .iload_n _ => 1 | .iload _ => 2 | .lload_n _ => 1 | .lload _ => 2 | .aload_n _ => 1 | .aload _ => 2
  | .istore_n _ => 1 | .istore _ => 2 | .astore_n _ => 1 | .astore _ => 2 | .lstore _ => 2 | .iinc _ _ => 3
  | .iadd => 1 | .isub => 1 | .imul => 1 | .iand => 1 | .ior => 1 | .ishl => 1 | .iushr => 1 | .irem => 1
  | .ladd => 1 | .lsub => 1 | .lmul => 1 | .land => 1 | .lor => 1 | .lrem => 1 | .lcmp => 1 | .lshl => 1 | .i2l => 1 | .l2i => 1
  | .dup => 1 | .dup2 => 1 | .pop => 1 | .goto _ => 3 | .ifCond _ _ => 3 | .if_icmp _ _ => 3
  | .getfield _ => 3 | .putfield _ => 3 | .iaload => 1 | .baload => 1 | .laload => 1 | .aaload => 1 | .iastore => 1 | .bastore => 1 | .lastore => 1 | .arraylength => 1
  | .invokevirtual _ => 3 | .invokestatic _ => 3 | .ireturn => 1 | .lreturn => 1 | .return_ => 1
  | _ => 0
def pm_run (sh : pSH) (tab : Nat → Option (Instr × Nat)) (fld : Nat → Option (Nat × Nat)) (cst : Nat → Option (Int32 ⊕ Int64)) (cal : pCL) (nL rt : Nat) : Nat → Nat → pLS → List pSV → pST → Option pRT
  | 0, _, _, _, _ => none
  | n + 1, pc, ls, st, σ => match tab pc with
    | none => none
    | some q => match pm_ins sh fld cst cal nL rt q.1 pc ls st σ with
      | some (.inl (pc', ls', st', σ')) => pm_run sh tab fld cst cal nL rt n pc' ls' st' σ'
      | some (.inr r) => some r
      | none => none
