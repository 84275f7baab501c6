/-! ===== walking over the pure machine: pR post pc L st σ: from there, with the locals of L held, the code comes to an answer with post ===== -/
def pm_has (ls L : pLS) : Prop := ∀ q ∈ L, pm_lk ls q.1 = some q.2
def pR (sh : pSH) (t : List (Nat × (Instr × Nat))) (f : List (Nat × (Nat × Nat))) (q : List (Nat × (Int32 ⊕ Int64))) (cl : List (Nat × (Nat × (Option Nat × pFN)))) (nL rt : Nat) (post : pRT → Prop) (pc : Nat) (L : pLS) (st : List pSV) (σ : pST) : Prop := ∀ ls : pLS, pm_has ls L → ∃ n x, pm_code sh t f q cl nL rt n pc ls st σ = some x ∧ post x
def pm_f1 (k : Nat) (q : Nat × pSV) : Bool := !(q.1 == k) && !(q.1 + 1 == k && pm_w q.2 == 2)
def pm_f2 (k : Nat) (q : Nat × pSV) : Bool := !(q.1 == k) && (!(q.1 == k + 1) && !(q.1 + 1 == k && pm_w q.2 == 2))
theorem pm_lk_filter {ls : pLS} {P : Nat × pSV → Bool} {k : Nat} {v : pSV} (h : pm_lk ls k = some v) (hp : P (k, v) = true) : pm_lk (ls.filter P) k = some v := by
  unfold pm_lk at h ⊢
  induction ls with
  | nil => cases h
  | cons a l ih =>
    rw [List.find?_cons] at h
    by_cases ha : (a.1 == k) = true
    · rw [ha] at h
      have e2 : a.2 = v := by simpa using h
      have e1 : a.1 = k := by simpa using ha
      have ea : a = (k, v) := by rw [← e1, ← e2]
      rw [List.filter_cons, ea, hp]
      simp
    · have ha' : (a.1 == k) = false := by simpa using ha
      rw [ha'] at h
      rw [List.filter_cons]
      by_cases hpa : P a = true
      · rw [if_pos hpa, List.find?_cons, ha']
        exact ih h
      · rw [if_neg hpa]
        exact ih h
theorem pm_has_s1 {ls L L' : pLS} {k : Nat} {v : pSV} (h : pm_has ls L) (hL : (k, v) :: L.filter (pm_f1 k) = L') : pm_has (pm_s1 ls k v) L' := by
  subst hL
  intro q hq
  rcases List.mem_cons.mp hq with rfl | hq
  · simp [pm_lk, pm_s1]
  · obtain ⟨h1, h2⟩ := List.mem_filter.mp hq
    have h3 := h q h1
    have hne : (k == q.1) = false := by
      simp only [pm_f1, Bool.and_eq_true, Bool.not_eq_true', beq_eq_false_iff_ne] at h2
      simp only [beq_eq_false_iff_ne]
      exact fun e => h2.1 e.symm
    have h4 : pm_lk (ls.filter (pm_f1 k)) q.1 = some q.2 := pm_lk_filter h3 h2
    show pm_lk ((k, v) :: ls.filter (pm_f1 k)) q.1 = some q.2
    unfold pm_lk at h4 ⊢
    rw [List.find?_cons, hne]
    exact h4
theorem pm_has_s2 {ls L L' : pLS} {k : Nat} {v : pSV} (h : pm_has ls L) (hL : (k, v) :: L.filter (pm_f2 k) = L') : pm_has (pm_s2 ls k v) L' := by
  subst hL
  intro q hq
  rcases List.mem_cons.mp hq with rfl | hq
  · simp [pm_lk, pm_s2]
  · obtain ⟨h1, h2⟩ := List.mem_filter.mp hq
    have h3 := h q h1
    have hne : (k == q.1) = false := by
      simp only [pm_f2, Bool.and_eq_true, Bool.not_eq_true', beq_eq_false_iff_ne] at h2
      simp only [beq_eq_false_iff_ne]
      exact fun e => h2.1 e.symm
    have h4 : pm_lk (ls.filter (pm_f2 k)) q.1 = some q.2 := pm_lk_filter h3 h2
    show pm_lk ((k, v) :: ls.filter (pm_f2 k)) q.1 = some q.2
    unfold pm_lk at h4 ⊢
    rw [List.find?_cons, hne]
    exact h4
theorem pn_ldc {sh : pSH} {fld : Nat → Option (Nat × Nat)} {cst : Nat → Option (Int32 ⊕ Int64)} {cal : pCL} {nL rt : Nat} {k : Nat} {pc : Nat} {ls : pLS} {st : List pSV} {σ : pST} : pm_ins sh fld cst cal nL rt (.ldc k) pc ls st σ = pm_ldc (cst k) (pc + 2) ls st σ := rfl
theorem pn_ldcw {sh : pSH} {fld : Nat → Option (Nat × Nat)} {cst : Nat → Option (Int32 ⊕ Int64)} {cal : pCL} {nL rt : Nat} {k : Nat} {pc : Nat} {ls : pLS} {st : List pSV} {σ : pST} : pm_ins sh fld cst cal nL rt (.ldc_w k) pc ls st σ = pm_ldc (cst k) (pc + 3) ls st σ := rfl
theorem pn_ldc2 {sh : pSH} {fld : Nat → Option (Nat × Nat)} {cst : Nat → Option (Int32 ⊕ Int64)} {cal : pCL} {nL rt : Nat} {k : Nat} {pc : Nat} {ls : pLS} {st : List pSV} {σ : pST} : pm_ins sh fld cst cal nL rt (.ldc2_w k) pc ls st σ = pm_ldc2 (cst k) (pc + 3) ls st σ := rfl
theorem pn_iload_n {sh : pSH} {fld : Nat → Option (Nat × Nat)} {cst : Nat → Option (Int32 ⊕ Int64)} {cal : pCL} {nL rt : Nat} {k : Fin 4} {pc : Nat} {ls : pLS} {st : List pSV} {σ : pST} : pm_ins sh fld cst cal nL rt (.iload_n k) pc ls st σ = pm_ldi k (pc + 1) ls st σ := rfl
theorem pn_iload {sh : pSH} {fld : Nat → Option (Nat × Nat)} {cst : Nat → Option (Int32 ⊕ Int64)} {cal : pCL} {nL rt : Nat} {k : Nat} {pc : Nat} {ls : pLS} {st : List pSV} {σ : pST} : pm_ins sh fld cst cal nL rt (.iload k) pc ls st σ = pm_ldi k (pc + 2) ls st σ := rfl
theorem pn_lload_n {sh : pSH} {fld : Nat → Option (Nat × Nat)} {cst : Nat → Option (Int32 ⊕ Int64)} {cal : pCL} {nL rt : Nat} {k : Fin 4} {pc : Nat} {ls : pLS} {st : List pSV} {σ : pST} : pm_ins sh fld cst cal nL rt (.lload_n k) pc ls st σ = pm_ldl k (pc + 1) ls st σ := rfl
theorem pn_lload {sh : pSH} {fld : Nat → Option (Nat × Nat)} {cst : Nat → Option (Int32 ⊕ Int64)} {cal : pCL} {nL rt : Nat} {k : Nat} {pc : Nat} {ls : pLS} {st : List pSV} {σ : pST} : pm_ins sh fld cst cal nL rt (.lload k) pc ls st σ = pm_ldl k (pc + 2) ls st σ := rfl
theorem pn_aload_n {sh : pSH} {fld : Nat → Option (Nat × Nat)} {cst : Nat → Option (Int32 ⊕ Int64)} {cal : pCL} {nL rt : Nat} {k : Fin 4} {pc : Nat} {ls : pLS} {st : List pSV} {σ : pST} : pm_ins sh fld cst cal nL rt (.aload_n k) pc ls st σ = pm_lda k (pc + 1) ls st σ := rfl
theorem pn_aload {sh : pSH} {fld : Nat → Option (Nat × Nat)} {cst : Nat → Option (Int32 ⊕ Int64)} {cal : pCL} {nL rt : Nat} {k : Nat} {pc : Nat} {ls : pLS} {st : List pSV} {σ : pST} : pm_ins sh fld cst cal nL rt (.aload k) pc ls st σ = pm_lda k (pc + 2) ls st σ := rfl
theorem pn_iinc {sh : pSH} {fld : Nat → Option (Nat × Nat)} {cst : Nat → Option (Int32 ⊕ Int64)} {cal : pCL} {nL rt : Nat} {k : Nat} {n : Int} {pc : Nat} {ls : pLS} {st : List pSV} {σ : pST} : pm_ins sh fld cst cal nL rt (.iinc k n) pc ls st σ = pm_inc nL k n (pc + 3) ls st σ := rfl
theorem pn_goto {sh : pSH} {fld : Nat → Option (Nat × Nat)} {cst : Nat → Option (Int32 ⊕ Int64)} {cal : pCL} {nL rt : Nat} {off : Int} {pc : Nat} {ls : pLS} {st : List pSV} {σ : pST} : pm_ins sh fld cst cal nL rt (.goto off) pc ls st σ = pm_j pc off ls st σ := rfl
theorem pn_if_eq {sh : pSH} {fld : Nat → Option (Nat × Nat)} {cst : Nat → Option (Int32 ⊕ Int64)} {cal : pCL} {nL rt : Nat} {off : Int} {pc : Nat} {ls : pLS} {st : List pSV} {σ : pST} : pm_ins sh fld cst cal nL rt (.ifCond .eq off) pc ls st σ = pm_if (fun x => decide (x = 0)) off pc ls st σ := rfl
theorem pn_if_ne {sh : pSH} {fld : Nat → Option (Nat × Nat)} {cst : Nat → Option (Int32 ⊕ Int64)} {cal : pCL} {nL rt : Nat} {off : Int} {pc : Nat} {ls : pLS} {st : List pSV} {σ : pST} : pm_ins sh fld cst cal nL rt (.ifCond .ne off) pc ls st σ = pm_if (fun x => decide (¬ x = 0)) off pc ls st σ := rfl
theorem pn_if_lt {sh : pSH} {fld : Nat → Option (Nat × Nat)} {cst : Nat → Option (Int32 ⊕ Int64)} {cal : pCL} {nL rt : Nat} {off : Int} {pc : Nat} {ls : pLS} {st : List pSV} {σ : pST} : pm_ins sh fld cst cal nL rt (.ifCond .lt off) pc ls st σ = pm_if (fun x => decide (x < 0)) off pc ls st σ := rfl
theorem pn_if_ge {sh : pSH} {fld : Nat → Option (Nat × Nat)} {cst : Nat → Option (Int32 ⊕ Int64)} {cal : pCL} {nL rt : Nat} {off : Int} {pc : Nat} {ls : pLS} {st : List pSV} {σ : pST} : pm_ins sh fld cst cal nL rt (.ifCond .ge off) pc ls st σ = pm_if (fun x => decide (0 ≤ x)) off pc ls st σ := rfl
theorem pn_if_gt {sh : pSH} {fld : Nat → Option (Nat × Nat)} {cst : Nat → Option (Int32 ⊕ Int64)} {cal : pCL} {nL rt : Nat} {off : Int} {pc : Nat} {ls : pLS} {st : List pSV} {σ : pST} : pm_ins sh fld cst cal nL rt (.ifCond .gt off) pc ls st σ = pm_if (fun x => decide (0 < x)) off pc ls st σ := rfl
theorem pn_if_le {sh : pSH} {fld : Nat → Option (Nat × Nat)} {cst : Nat → Option (Int32 ⊕ Int64)} {cal : pCL} {nL rt : Nat} {off : Int} {pc : Nat} {ls : pLS} {st : List pSV} {σ : pST} : pm_ins sh fld cst cal nL rt (.ifCond .le off) pc ls st σ = pm_if (fun x => decide (x ≤ 0)) off pc ls st σ := rfl
theorem pn_ic_eq {sh : pSH} {fld : Nat → Option (Nat × Nat)} {cst : Nat → Option (Int32 ⊕ Int64)} {cal : pCL} {nL rt : Nat} {off : Int} {pc : Nat} {ls : pLS} {st : List pSV} {σ : pST} : pm_ins sh fld cst cal nL rt (.if_icmp .eq off) pc ls st σ = pm_ic (fun x y => decide (x = y)) off pc ls st σ := rfl
theorem pn_ic_ne {sh : pSH} {fld : Nat → Option (Nat × Nat)} {cst : Nat → Option (Int32 ⊕ Int64)} {cal : pCL} {nL rt : Nat} {off : Int} {pc : Nat} {ls : pLS} {st : List pSV} {σ : pST} : pm_ins sh fld cst cal nL rt (.if_icmp .ne off) pc ls st σ = pm_ic (fun x y => decide (¬ x = y)) off pc ls st σ := rfl
theorem pn_ic_lt {sh : pSH} {fld : Nat → Option (Nat × Nat)} {cst : Nat → Option (Int32 ⊕ Int64)} {cal : pCL} {nL rt : Nat} {off : Int} {pc : Nat} {ls : pLS} {st : List pSV} {σ : pST} : pm_ins sh fld cst cal nL rt (.if_icmp .lt off) pc ls st σ = pm_ic (fun x y => decide (x < y)) off pc ls st σ := rfl
theorem pn_ic_ge {sh : pSH} {fld : Nat → Option (Nat × Nat)} {cst : Nat → Option (Int32 ⊕ Int64)} {cal : pCL} {nL rt : Nat} {off : Int} {pc : Nat} {ls : pLS} {st : List pSV} {σ : pST} : pm_ins sh fld cst cal nL rt (.if_icmp .ge off) pc ls st σ = pm_ic (fun x y => decide (y ≤ x)) off pc ls st σ := rfl
theorem pn_ic_gt {sh : pSH} {fld : Nat → Option (Nat × Nat)} {cst : Nat → Option (Int32 ⊕ Int64)} {cal : pCL} {nL rt : Nat} {off : Int} {pc : Nat} {ls : pLS} {st : List pSV} {σ : pST} : pm_ins sh fld cst cal nL rt (.if_icmp .gt off) pc ls st σ = pm_ic (fun x y => decide (y < x)) off pc ls st σ := rfl
theorem pn_ic_le {sh : pSH} {fld : Nat → Option (Nat × Nat)} {cst : Nat → Option (Int32 ⊕ Int64)} {cal : pCL} {nL rt : Nat} {off : Int} {pc : Nat} {ls : pLS} {st : List pSV} {σ : pST} : pm_ins sh fld cst cal nL rt (.if_icmp .le off) pc ls st σ = pm_ic (fun x y => decide (x ≤ y)) off pc ls st σ := rfl
theorem pn_tsw {sh : pSH} {fld : Nat → Option (Nat × Nat)} {cst : Nat → Option (Int32 ⊕ Int64)} {cal : pCL} {nL rt : Nat} {d lo hi : Int} {o : Array Int} {pc : Nat} {ls : pLS} {st : List pSV} {σ : pST} : pm_ins sh fld cst cal nL rt (.tableswitch d lo hi o) pc ls st σ = pm_tsw d lo hi o pc ls st σ := rfl
theorem pn_lsw {sh : pSH} {fld : Nat → Option (Nat × Nat)} {cst : Nat → Option (Int32 ⊕ Int64)} {cal : pCL} {nL rt : Nat} {d : Int} {ps : Array (Int × Int)} {pc : Nat} {ls : pLS} {st : List pSV} {σ : pST} : pm_ins sh fld cst cal nL rt (.lookupswitch d ps) pc ls st σ = pm_lsw d ps pc ls st σ := rfl
theorem pn_gf {sh : pSH} {fld : Nat → Option (Nat × Nat)} {cst : Nat → Option (Int32 ⊕ Int64)} {cal : pCL} {nL rt : Nat} {k : Nat} {pc : Nat} {ls : pLS} {st : List pSV} {σ : pST} : pm_ins sh fld cst cal nL rt (.getfield k) pc ls st σ = pm_gf sh (fld k) (pc + 3) ls st σ := rfl
theorem pn_pf {sh : pSH} {fld : Nat → Option (Nat × Nat)} {cst : Nat → Option (Int32 ⊕ Int64)} {cal : pCL} {nL rt : Nat} {k : Nat} {pc : Nat} {ls : pLS} {st : List pSV} {σ : pST} : pm_ins sh fld cst cal nL rt (.putfield k) pc ls st σ = pm_pf sh (fld k) (pc + 3) ls st σ := rfl
theorem pn_ial {sh : pSH} {fld : Nat → Option (Nat × Nat)} {cst : Nat → Option (Int32 ⊕ Int64)} {cal : pCL} {nL rt : Nat}  {pc : Nat} {ls : pLS} {st : List pSV} {σ : pST} : pm_ins sh fld cst cal nL rt (.iaload) pc ls st σ = pm_ial sh (pc + 1) ls st σ := rfl
theorem pn_zal {sh : pSH} {fld : Nat → Option (Nat × Nat)} {cst : Nat → Option (Int32 ⊕ Int64)} {cal : pCL} {nL rt : Nat}  {pc : Nat} {ls : pLS} {st : List pSV} {σ : pST} : pm_ins sh fld cst cal nL rt (.baload) pc ls st σ = pm_zal sh (pc + 1) ls st σ := rfl
theorem pn_lal {sh : pSH} {fld : Nat → Option (Nat × Nat)} {cst : Nat → Option (Int32 ⊕ Int64)} {cal : pCL} {nL rt : Nat}  {pc : Nat} {ls : pLS} {st : List pSV} {σ : pST} : pm_ins sh fld cst cal nL rt (.laload) pc ls st σ = pm_lal sh (pc + 1) ls st σ := rfl
theorem pn_aal {sh : pSH} {fld : Nat → Option (Nat × Nat)} {cst : Nat → Option (Int32 ⊕ Int64)} {cal : pCL} {nL rt : Nat}  {pc : Nat} {ls : pLS} {st : List pSV} {σ : pST} : pm_ins sh fld cst cal nL rt (.aaload) pc ls st σ = pm_aal sh (pc + 1) ls st σ := rfl
theorem pn_ias {sh : pSH} {fld : Nat → Option (Nat × Nat)} {cst : Nat → Option (Int32 ⊕ Int64)} {cal : pCL} {nL rt : Nat}  {pc : Nat} {ls : pLS} {st : List pSV} {σ : pST} : pm_ins sh fld cst cal nL rt (.iastore) pc ls st σ = pm_ias sh (pc + 1) ls st σ := rfl
theorem pn_zas {sh : pSH} {fld : Nat → Option (Nat × Nat)} {cst : Nat → Option (Int32 ⊕ Int64)} {cal : pCL} {nL rt : Nat}  {pc : Nat} {ls : pLS} {st : List pSV} {σ : pST} : pm_ins sh fld cst cal nL rt (.bastore) pc ls st σ = pm_zas sh (pc + 1) ls st σ := rfl
theorem pn_las {sh : pSH} {fld : Nat → Option (Nat × Nat)} {cst : Nat → Option (Int32 ⊕ Int64)} {cal : pCL} {nL rt : Nat}  {pc : Nat} {ls : pLS} {st : List pSV} {σ : pST} : pm_ins sh fld cst cal nL rt (.lastore) pc ls st σ = pm_las sh (pc + 1) ls st σ := rfl
theorem pn_al {sh : pSH} {fld : Nat → Option (Nat × Nat)} {cst : Nat → Option (Int32 ⊕ Int64)} {cal : pCL} {nL rt : Nat}  {pc : Nat} {ls : pLS} {st : List pSV} {σ : pST} : pm_ins sh fld cst cal nL rt (.arraylength) pc ls st σ = pm_al sh (pc + 1) ls st σ := rfl
theorem pn_callV {sh : pSH} {fld : Nat → Option (Nat × Nat)} {cst : Nat → Option (Int32 ⊕ Int64)} {cal : pCL} {nL rt : Nat} {k : Nat} {pc : Nat} {ls : pLS} {st : List pSV} {σ : pST} : pm_ins sh fld cst cal nL rt (.invokevirtual k) pc ls st σ = pm_call (cal k) false pc ls st σ := rfl
theorem pn_callS {sh : pSH} {fld : Nat → Option (Nat × Nat)} {cst : Nat → Option (Int32 ⊕ Int64)} {cal : pCL} {nL rt : Nat} {k : Nat} {pc : Nat} {ls : pLS} {st : List pSV} {σ : pST} : pm_ins sh fld cst cal nL rt (.invokestatic k) pc ls st σ = pm_call (cal k) true pc ls st σ := rfl
section PR
variable {sh : pSH} {t : List (Nat × (Instr × Nat))} {f : List (Nat × (Nat × Nat))} {q : List (Nat × (Int32 ⊕ Int64))} {cl : List (Nat × (Nat × (Option Nat × pFN)))} {nL rt : Nat} {post : pRT → Prop} {pc pc' : Nat} {L L' : pLS} {st r : List pSV} {σ : pST} {ln : Nat}
theorem pR_step {ins : Instr} {st' : List pSV} {σ' : pST} (ht : pm_tb t pc = some (ins, ln)) (h : ∀ ls, pm_has ls L → ∃ ls', pm_ins sh (pm_fb f) (pm_kb q) (pm_lb cl) nL rt ins pc ls st σ = some (.inl (pc', ls', st', σ')) ∧ pm_has ls' L') (K : pR sh t f q cl nL rt post pc' L' st' σ') : pR sh t f q cl nL rt post pc L st σ := by
  intro ls hl
  obtain ⟨ls', h1, h2⟩ := h ls hl
  obtain ⟨n, x, h3, h4⟩ := K ls' h2
  refine ⟨n + 1, x, ?_, h4⟩
  unfold pm_code pm_run
  rw [ht]
  simp only
  rw [h1]
  exact h3
theorem pR_end {ins : Instr} {x : pRT} (ht : pm_tb t pc = some (ins, ln)) (h : ∀ ls, pm_ins sh (pm_fb f) (pm_kb q) (pm_lb cl) nL rt ins pc ls st σ = some (.inr x)) (hp : post x) : pR sh t f q cl nL rt post pc L st σ := by
  intro ls hl
  refine ⟨1, x, ?_, hp⟩
  unfold pm_code pm_run
  rw [ht]
  simp only
  rw [h ls]
/-- fewer of the locals, in another order -/
theorem pR_sub (ks : List Nat) (hs : ks.filterMap (fun k => L[k]?) = L') (K : pR sh t f q cl nL rt post pc L' st σ) : pR sh t f q cl nL rt post pc L st σ := by
  intro ls hl
  refine K ls (fun a ha => ?_)
  rw [← hs] at ha
  obtain ⟨k, -, hk⟩ := List.mem_filterMap.mp ha
  exact hl a (List.mem_of_getElem? hk)
theorem pR_eq {st' : List pSV} {σ' : pST} (h1 : st = st') (h2 : σ = σ') (K : pR sh t f q cl nL rt post pc L st' σ') : pR sh t f q cl nL rt post pc L st σ := by rw [h1, h2]; exact K
theorem pR_topi {x y : Int32} (h : x = y) (K : pR sh t f q cl nL rt post pc L (.inl y :: r) σ) : pR sh t f q cl nL rt post pc L (.inl x :: r) σ := by rw [h]; exact K
theorem pR_topl {x y : Int64} (h : x = y) (K : pR sh t f q cl nL rt post pc L (.inr (.inl y) :: r) σ) : pR sh t f q cl nL rt post pc L (.inr (.inl x) :: r) σ := by rw [h]; exact K
theorem pR_post {post' : pRT → Prop} (h : ∀ x, post' x → post x) (K : pR sh t f q cl nL rt post' pc L st σ) : pR sh t f q cl nL rt post pc L st σ := fun ls hl => by
  obtain ⟨n, x, h1, h2⟩ := K ls hl
  exact ⟨n, x, h1, h x h2⟩
theorem pr_iconst {n : Int} {v : Int32} (ht : pm_tb t pc = some (.iconst n, ln)) (hv : Int32.ofInt n = v) (K : pR sh t f q cl nL rt post (pc + 1) L (.inl v :: st) σ) : pR sh t f q cl nL rt post pc L (st) σ := pR_step ht (fun ls hl => ⟨ls, by subst hv; rfl, hl⟩) K
theorem pr_bipush {n : Int} {v : Int32} (ht : pm_tb t pc = some (.bipush n, ln)) (hv : (Int8.ofInt n).toInt32 = v) (K : pR sh t f q cl nL rt post (pc + 2) L (.inl v :: st) σ) : pR sh t f q cl nL rt post pc L (st) σ := pR_step ht (fun ls hl => ⟨ls, by subst hv; rfl, hl⟩) K
theorem pr_sipush {n : Int} {v : Int32} (ht : pm_tb t pc = some (.sipush n, ln)) (hv : (Int16.ofInt n).toInt32 = v) (K : pR sh t f q cl nL rt post (pc + 3) L (.inl v :: st) σ) : pR sh t f q cl nL rt post pc L (st) σ := pR_step ht (fun ls hl => ⟨ls, by subst hv; rfl, hl⟩) K
theorem pr_lconst {n : Fin 2} {v : Int64} (ht : pm_tb t pc = some (.lconst n, ln)) (hv : Int64.ofNat (n : Nat) = v) (K : pR sh t f q cl nL rt post (pc + 1) L (.inr (.inl v) :: st) σ) : pR sh t f q cl nL rt post pc L (st) σ := pR_step ht (fun ls hl => ⟨ls, by subst hv; rfl, hl⟩) K
theorem pr_ldc {k : Nat} {v : Int32} (ht : pm_tb t pc = some (.ldc k, ln)) (hv : pm_kb q k = some (.inl v)) (K : pR sh t f q cl nL rt post (pc + 2) L (.inl v :: st) σ) : pR sh t f q cl nL rt post pc L (st) σ := pR_step ht (fun ls hl => ⟨ls, by rw [pn_ldc, hv]; rfl, hl⟩) K
theorem pr_ldcw {k : Nat} {v : Int32} (ht : pm_tb t pc = some (.ldc_w k, ln)) (hv : pm_kb q k = some (.inl v)) (K : pR sh t f q cl nL rt post (pc + 3) L (.inl v :: st) σ) : pR sh t f q cl nL rt post pc L (st) σ := pR_step ht (fun ls hl => ⟨ls, by rw [pn_ldcw, hv]; rfl, hl⟩) K
theorem pr_ldc2 {k : Nat} {v : Int64} (ht : pm_tb t pc = some (.ldc2_w k, ln)) (hv : pm_kb q k = some (.inr v)) (K : pR sh t f q cl nL rt post (pc + 3) L (.inr (.inl v) :: st) σ) : pR sh t f q cl nL rt post pc L (st) σ := pR_step ht (fun ls hl => ⟨ls, by rw [pn_ldc2, hv]; rfl, hl⟩) K
theorem pr_iload_n {k : Fin 4} {x : Int32} (ht : pm_tb t pc = some (.iload_n k, ln)) (i : Nat) (hk : L[i]? = some ((k : Nat), .inl x)) (K : pR sh t f q cl nL rt post (pc + 1) L (.inl x :: st) σ) : pR sh t f q cl nL rt post pc L (st) σ := pR_step ht (fun ls hl => ⟨ls, by rw [pn_iload_n]; unfold pm_ldi; rw [hl _ (List.mem_of_getElem? hk)], hl⟩) K
theorem pr_iload {k : Nat} {x : Int32} (ht : pm_tb t pc = some (.iload k, ln)) (i : Nat) (hk : L[i]? = some ((k : Nat), .inl x)) (K : pR sh t f q cl nL rt post (pc + 2) L (.inl x :: st) σ) : pR sh t f q cl nL rt post pc L (st) σ := pR_step ht (fun ls hl => ⟨ls, by rw [pn_iload]; unfold pm_ldi; rw [hl _ (List.mem_of_getElem? hk)], hl⟩) K
theorem pr_lload_n {k : Fin 4} {x : Int64} (ht : pm_tb t pc = some (.lload_n k, ln)) (i : Nat) (hk : L[i]? = some ((k : Nat), .inr (.inl x))) (K : pR sh t f q cl nL rt post (pc + 1) L (.inr (.inl x) :: st) σ) : pR sh t f q cl nL rt post pc L (st) σ := pR_step ht (fun ls hl => ⟨ls, by rw [pn_lload_n]; unfold pm_ldl; rw [hl _ (List.mem_of_getElem? hk)], hl⟩) K
theorem pr_lload {k : Nat} {x : Int64} (ht : pm_tb t pc = some (.lload k, ln)) (i : Nat) (hk : L[i]? = some ((k : Nat), .inr (.inl x))) (K : pR sh t f q cl nL rt post (pc + 2) L (.inr (.inl x) :: st) σ) : pR sh t f q cl nL rt post pc L (st) σ := pR_step ht (fun ls hl => ⟨ls, by rw [pn_lload]; unfold pm_ldl; rw [hl _ (List.mem_of_getElem? hk)], hl⟩) K
theorem pr_aload_n {k : Fin 4} {x : Nat} (ht : pm_tb t pc = some (.aload_n k, ln)) (i : Nat) (hk : L[i]? = some ((k : Nat), .inr (.inr x))) (K : pR sh t f q cl nL rt post (pc + 1) L (.inr (.inr x) :: st) σ) : pR sh t f q cl nL rt post pc L (st) σ := pR_step ht (fun ls hl => ⟨ls, by rw [pn_aload_n]; unfold pm_lda; rw [hl _ (List.mem_of_getElem? hk)], hl⟩) K
theorem pr_aload {k : Nat} {x : Nat} (ht : pm_tb t pc = some (.aload k, ln)) (i : Nat) (hk : L[i]? = some ((k : Nat), .inr (.inr x))) (K : pR sh t f q cl nL rt post (pc + 2) L (.inr (.inr x) :: st) σ) : pR sh t f q cl nL rt post pc L (st) σ := pR_step ht (fun ls hl => ⟨ls, by rw [pn_aload]; unfold pm_lda; rw [hl _ (List.mem_of_getElem? hk)], hl⟩) K
theorem pr_istore_n {k : Fin 4} {x : Int32} (ht : pm_tb t pc = some (.istore_n k, ln)) (hn : (k : Nat) < nL) (hL : ((k : Nat), .inl x) :: L.filter (pm_f1 k) = L') (K : pR sh t f q cl nL rt post (pc + 1) L' (r) σ) : pR sh t f q cl nL rt post pc L (.inl x :: r) σ := pR_step ht (fun ls hl => ⟨pm_s1 ls k (.inl x), if_pos hn, pm_has_s1 hl hL⟩) K
theorem pr_istore {k : Nat} {x : Int32} (ht : pm_tb t pc = some (.istore k, ln)) (hn : k < nL) (hL : ((k : Nat), .inl x) :: L.filter (pm_f1 k) = L') (K : pR sh t f q cl nL rt post (pc + 2) L' (r) σ) : pR sh t f q cl nL rt post pc L (.inl x :: r) σ := pR_step ht (fun ls hl => ⟨pm_s1 ls k (.inl x), if_pos hn, pm_has_s1 hl hL⟩) K
theorem pr_astore_n {k : Fin 4} {x : Nat} (ht : pm_tb t pc = some (.astore_n k, ln)) (hn : (k : Nat) < nL) (hL : ((k : Nat), .inr (.inr x)) :: L.filter (pm_f1 k) = L') (K : pR sh t f q cl nL rt post (pc + 1) L' (r) σ) : pR sh t f q cl nL rt post pc L (.inr (.inr x) :: r) σ := pR_step ht (fun ls hl => ⟨pm_s1 ls k (.inr (.inr x)), if_pos hn, pm_has_s1 hl hL⟩) K
theorem pr_astore {k : Nat} {x : Nat} (ht : pm_tb t pc = some (.astore k, ln)) (hn : k < nL) (hL : ((k : Nat), .inr (.inr x)) :: L.filter (pm_f1 k) = L') (K : pR sh t f q cl nL rt post (pc + 2) L' (r) σ) : pR sh t f q cl nL rt post pc L (.inr (.inr x) :: r) σ := pR_step ht (fun ls hl => ⟨pm_s1 ls k (.inr (.inr x)), if_pos hn, pm_has_s1 hl hL⟩) K
theorem pr_lstore {k : Nat} {x : Int64} (ht : pm_tb t pc = some (.lstore k, ln)) (hn : k + 1 < nL) (hL : ((k : Nat), .inr (.inl x)) :: L.filter (pm_f2 k) = L') (K : pR sh t f q cl nL rt post (pc + 2) L' (r) σ) : pR sh t f q cl nL rt post pc L (.inr (.inl x) :: r) σ := pR_step ht (fun ls hl => ⟨pm_s2 ls k (.inr (.inl x)), if_pos hn, pm_has_s2 hl hL⟩) K
theorem pr_iinc {k : Nat} {n : Int} {x v : Int32} (ht : pm_tb t pc = some (.iinc k n, ln)) (i : Nat) (hk : L[i]? = some (k, .inl x)) (hv : x + Int32.ofInt n = v) (hn : k < nL) (hL : (k, .inl v) :: L.filter (pm_f1 k) = L') (K : pR sh t f q cl nL rt post (pc + 3) L' (st) σ) : pR sh t f q cl nL rt post pc L (st) σ := pR_step ht (fun ls hl => ⟨pm_s1 ls k (.inl v), by rw [pn_iinc]; unfold pm_inc; rw [hl _ (List.mem_of_getElem? hk)]; subst hv; exact if_pos hn, pm_has_s1 hl hL⟩) K
theorem pr_iadd {x y v : Int32} (ht : pm_tb t pc = some (.iadd, ln)) (hv : x + y = v) (K : pR sh t f q cl nL rt post (pc + 1) L (.inl v :: r) σ) : pR sh t f q cl nL rt post pc L (.inl y :: .inl x :: r) σ := pR_step ht (fun ls hl => ⟨ls, by subst hv; rfl, hl⟩) K
theorem pr_isub {x y v : Int32} (ht : pm_tb t pc = some (.isub, ln)) (hv : x - y = v) (K : pR sh t f q cl nL rt post (pc + 1) L (.inl v :: r) σ) : pR sh t f q cl nL rt post pc L (.inl y :: .inl x :: r) σ := pR_step ht (fun ls hl => ⟨ls, by subst hv; rfl, hl⟩) K
theorem pr_imul {x y v : Int32} (ht : pm_tb t pc = some (.imul, ln)) (hv : x * y = v) (K : pR sh t f q cl nL rt post (pc + 1) L (.inl v :: r) σ) : pR sh t f q cl nL rt post pc L (.inl y :: .inl x :: r) σ := pR_step ht (fun ls hl => ⟨ls, by subst hv; rfl, hl⟩) K
theorem pr_iand {x y v : Int32} (ht : pm_tb t pc = some (.iand, ln)) (hv : x &&& y = v) (K : pR sh t f q cl nL rt post (pc + 1) L (.inl v :: r) σ) : pR sh t f q cl nL rt post pc L (.inl y :: .inl x :: r) σ := pR_step ht (fun ls hl => ⟨ls, by subst hv; rfl, hl⟩) K
theorem pr_ior {x y v : Int32} (ht : pm_tb t pc = some (.ior, ln)) (hv : x ||| y = v) (K : pR sh t f q cl nL rt post (pc + 1) L (.inl v :: r) σ) : pR sh t f q cl nL rt post pc L (.inl y :: .inl x :: r) σ := pR_step ht (fun ls hl => ⟨ls, by subst hv; rfl, hl⟩) K
theorem pr_ishl {x y v : Int32} (ht : pm_tb t pc = some (.ishl, ln)) (hv : x <<< (y &&& 31) = v) (K : pR sh t f q cl nL rt post (pc + 1) L (.inl v :: r) σ) : pR sh t f q cl nL rt post pc L (.inl y :: .inl x :: r) σ := pR_step ht (fun ls hl => ⟨ls, by subst hv; rfl, hl⟩) K
theorem pr_iushr {x y v : Int32} (ht : pm_tb t pc = some (.iushr, ln)) (hv : (x.toUInt32 >>> (y.toUInt32 &&& Int32.toUInt32 31)).toInt32 = v) (K : pR sh t f q cl nL rt post (pc + 1) L (.inl v :: r) σ) : pR sh t f q cl nL rt post pc L (.inl y :: .inl x :: r) σ := pR_step ht (fun ls hl => ⟨ls, by subst hv; rfl, hl⟩) K
theorem pr_ladd {x y v : Int64} (ht : pm_tb t pc = some (.ladd, ln)) (hv : x + y = v) (K : pR sh t f q cl nL rt post (pc + 1) L (.inr (.inl v) :: r) σ) : pR sh t f q cl nL rt post pc L (.inr (.inl y) :: .inr (.inl x) :: r) σ := pR_step ht (fun ls hl => ⟨ls, by subst hv; rfl, hl⟩) K
theorem pr_lsub {x y v : Int64} (ht : pm_tb t pc = some (.lsub, ln)) (hv : x - y = v) (K : pR sh t f q cl nL rt post (pc + 1) L (.inr (.inl v) :: r) σ) : pR sh t f q cl nL rt post pc L (.inr (.inl y) :: .inr (.inl x) :: r) σ := pR_step ht (fun ls hl => ⟨ls, by subst hv; rfl, hl⟩) K
theorem pr_lmul {x y v : Int64} (ht : pm_tb t pc = some (.lmul, ln)) (hv : x * y = v) (K : pR sh t f q cl nL rt post (pc + 1) L (.inr (.inl v) :: r) σ) : pR sh t f q cl nL rt post pc L (.inr (.inl y) :: .inr (.inl x) :: r) σ := pR_step ht (fun ls hl => ⟨ls, by subst hv; rfl, hl⟩) K
theorem pr_land {x y v : Int64} (ht : pm_tb t pc = some (.land, ln)) (hv : x &&& y = v) (K : pR sh t f q cl nL rt post (pc + 1) L (.inr (.inl v) :: r) σ) : pR sh t f q cl nL rt post pc L (.inr (.inl y) :: .inr (.inl x) :: r) σ := pR_step ht (fun ls hl => ⟨ls, by subst hv; rfl, hl⟩) K
theorem pr_lor {x y v : Int64} (ht : pm_tb t pc = some (.lor, ln)) (hv : x ||| y = v) (K : pR sh t f q cl nL rt post (pc + 1) L (.inr (.inl v) :: r) σ) : pR sh t f q cl nL rt post pc L (.inr (.inl y) :: .inr (.inl x) :: r) σ := pR_step ht (fun ls hl => ⟨ls, by subst hv; rfl, hl⟩) K
theorem pr_irem {x y v : Int32} (ht : pm_tb t pc = some (.irem, ln)) (hne : ¬ y = 0) (hv : x - x / y * y = v) (K : pR sh t f q cl nL rt post (pc + 1) L (.inl v :: r) σ) : pR sh t f q cl nL rt post pc L (.inl y :: .inl x :: r) σ := pR_step ht (fun ls hl => ⟨ls, by subst hv; exact if_neg hne, hl⟩) K
theorem pr_lrem {x y v : Int64} (ht : pm_tb t pc = some (.lrem, ln)) (hne : ¬ y = 0) (hv : x - x / y * y = v) (K : pR sh t f q cl nL rt post (pc + 1) L (.inr (.inl v) :: r) σ) : pR sh t f q cl nL rt post pc L (.inr (.inl y) :: .inr (.inl x) :: r) σ := pR_step ht (fun ls hl => ⟨ls, by subst hv; exact if_neg hne, hl⟩) K
theorem pr_lcmp {x y : Int64} (ht : pm_tb t pc = some (.lcmp, ln)) (K : pR sh t f q cl nL rt post (pc + 1) L (.inl (lg_cmp x y) :: r) σ) : pR sh t f q cl nL rt post pc L (.inr (.inl y) :: .inr (.inl x) :: r) σ := pR_step ht (fun ls hl => ⟨ls, rfl, hl⟩) K
theorem pr_lshl {y : Int32} {x v : Int64} (ht : pm_tb t pc = some (.lshl, ln)) (hv : x <<< (y.toInt64 &&& 63) = v) (K : pR sh t f q cl nL rt post (pc + 1) L (.inr (.inl v) :: r) σ) : pR sh t f q cl nL rt post pc L (.inl y :: .inr (.inl x) :: r) σ := pR_step ht (fun ls hl => ⟨ls, by subst hv; rfl, hl⟩) K
theorem pr_i2l {x : Int32} {v : Int64} (ht : pm_tb t pc = some (.i2l, ln)) (hv : x.toInt64 = v) (K : pR sh t f q cl nL rt post (pc + 1) L (.inr (.inl v) :: r) σ) : pR sh t f q cl nL rt post pc L (.inl x :: r) σ := pR_step ht (fun ls hl => ⟨ls, by subst hv; rfl, hl⟩) K
theorem pr_l2i {x : Int64} {v : Int32} (ht : pm_tb t pc = some (.l2i, ln)) (hv : x.toInt32 = v) (K : pR sh t f q cl nL rt post (pc + 1) L (.inl v :: r) σ) : pR sh t f q cl nL rt post pc L (.inr (.inl x) :: r) σ := pR_step ht (fun ls hl => ⟨ls, by subst hv; rfl, hl⟩) K
theorem pr_dup {v : pSV} (ht : pm_tb t pc = some (.dup, ln)) (hw : pm_w v = 1) (K : pR sh t f q cl nL rt post (pc + 1) L (v :: v :: r) σ) : pR sh t f q cl nL rt post pc L (v :: r) σ := pR_step ht (fun ls hl => ⟨ls, if_pos hw, hl⟩) K
theorem pr_pop {v : pSV} (ht : pm_tb t pc = some (.pop, ln)) (hw : pm_w v = 1) (K : pR sh t f q cl nL rt post (pc + 1) L (r) σ) : pR sh t f q cl nL rt post pc L (v :: r) σ := pR_step ht (fun ls hl => ⟨ls, if_pos hw, hl⟩) K
theorem pr_dup2 {v u : pSV} (ht : pm_tb t pc = some (.dup2, ln)) (hw : pm_w v = 1 ∧ pm_w u = 1) (K : pR sh t f q cl nL rt post (pc + 1) L (v :: u :: v :: u :: r) σ) : pR sh t f q cl nL rt post pc L (v :: u :: r) σ := pR_step ht (fun ls hl => ⟨ls, if_pos hw, hl⟩) K
theorem pr_goto {off : Int} (ht : pm_tb t pc = some (.goto off, ln)) (hj : (pc : Int) + off = (pc' : Int)) (K : pR sh t f q cl nL rt post (pc') L (st) σ) : pR sh t f q cl nL rt post pc L (st) σ := pR_step ht (fun ls hl => ⟨ls, by rw [pn_goto]; unfold pm_j; rw [hj, if_pos (Int.natCast_nonneg pc')]; rfl, hl⟩) K
theorem pr_if_eq {off : Int} {x : Int32} (ht : pm_tb t pc = some (.ifCond .eq off, ln)) (hj : (pc : Int) + off = (pc' : Int)) (K1 : x = 0 → pR sh t f q cl nL rt post pc' L r σ) (K2 : ¬ (x = 0) → pR sh t f q cl nL rt post (pc + 3) L r σ) : pR sh t f q cl nL rt post pc L (.inl x :: r) σ := by
  by_cases hc : x = 0
  · exact pR_step ht (fun ls hl => ⟨ls, by rw [pn_if_eq]; unfold pm_if; simp only; rw [if_pos (decide_eq_true hc)]; unfold pm_j; rw [hj, if_pos (Int.natCast_nonneg pc')]; rfl, hl⟩) (K1 hc)
  · exact pR_step ht (fun ls hl => ⟨ls, by rw [pn_if_eq]; unfold pm_if; simp only; rw [if_neg (fun z => hc (of_decide_eq_true z))], hl⟩) (K2 hc)
theorem pr_if_ne {off : Int} {x : Int32} (ht : pm_tb t pc = some (.ifCond .ne off, ln)) (hj : (pc : Int) + off = (pc' : Int)) (K1 : ¬ x = 0 → pR sh t f q cl nL rt post pc' L r σ) (K2 : ¬ (¬ x = 0) → pR sh t f q cl nL rt post (pc + 3) L r σ) : pR sh t f q cl nL rt post pc L (.inl x :: r) σ := by
  by_cases hc : ¬ x = 0
  · exact pR_step ht (fun ls hl => ⟨ls, by rw [pn_if_ne]; unfold pm_if; simp only; rw [if_pos (decide_eq_true hc)]; unfold pm_j; rw [hj, if_pos (Int.natCast_nonneg pc')]; rfl, hl⟩) (K1 hc)
  · exact pR_step ht (fun ls hl => ⟨ls, by rw [pn_if_ne]; unfold pm_if; simp only; rw [if_neg (fun z => hc (of_decide_eq_true z))], hl⟩) (K2 hc)
theorem pr_if_lt {off : Int} {x : Int32} (ht : pm_tb t pc = some (.ifCond .lt off, ln)) (hj : (pc : Int) + off = (pc' : Int)) (K1 : x < 0 → pR sh t f q cl nL rt post pc' L r σ) (K2 : ¬ (x < 0) → pR sh t f q cl nL rt post (pc + 3) L r σ) : pR sh t f q cl nL rt post pc L (.inl x :: r) σ := by
  by_cases hc : x < 0
  · exact pR_step ht (fun ls hl => ⟨ls, by rw [pn_if_lt]; unfold pm_if; simp only; rw [if_pos (decide_eq_true hc)]; unfold pm_j; rw [hj, if_pos (Int.natCast_nonneg pc')]; rfl, hl⟩) (K1 hc)
  · exact pR_step ht (fun ls hl => ⟨ls, by rw [pn_if_lt]; unfold pm_if; simp only; rw [if_neg (fun z => hc (of_decide_eq_true z))], hl⟩) (K2 hc)
theorem pr_if_ge {off : Int} {x : Int32} (ht : pm_tb t pc = some (.ifCond .ge off, ln)) (hj : (pc : Int) + off = (pc' : Int)) (K1 : 0 ≤ x → pR sh t f q cl nL rt post pc' L r σ) (K2 : ¬ (0 ≤ x) → pR sh t f q cl nL rt post (pc + 3) L r σ) : pR sh t f q cl nL rt post pc L (.inl x :: r) σ := by
  by_cases hc : 0 ≤ x
  · exact pR_step ht (fun ls hl => ⟨ls, by rw [pn_if_ge]; unfold pm_if; simp only; rw [if_pos (decide_eq_true hc)]; unfold pm_j; rw [hj, if_pos (Int.natCast_nonneg pc')]; rfl, hl⟩) (K1 hc)
  · exact pR_step ht (fun ls hl => ⟨ls, by rw [pn_if_ge]; unfold pm_if; simp only; rw [if_neg (fun z => hc (of_decide_eq_true z))], hl⟩) (K2 hc)
theorem pr_if_gt {off : Int} {x : Int32} (ht : pm_tb t pc = some (.ifCond .gt off, ln)) (hj : (pc : Int) + off = (pc' : Int)) (K1 : 0 < x → pR sh t f q cl nL rt post pc' L r σ) (K2 : ¬ (0 < x) → pR sh t f q cl nL rt post (pc + 3) L r σ) : pR sh t f q cl nL rt post pc L (.inl x :: r) σ := by
  by_cases hc : 0 < x
  · exact pR_step ht (fun ls hl => ⟨ls, by rw [pn_if_gt]; unfold pm_if; simp only; rw [if_pos (decide_eq_true hc)]; unfold pm_j; rw [hj, if_pos (Int.natCast_nonneg pc')]; rfl, hl⟩) (K1 hc)
  · exact pR_step ht (fun ls hl => ⟨ls, by rw [pn_if_gt]; unfold pm_if; simp only; rw [if_neg (fun z => hc (of_decide_eq_true z))], hl⟩) (K2 hc)
theorem pr_if_le {off : Int} {x : Int32} (ht : pm_tb t pc = some (.ifCond .le off, ln)) (hj : (pc : Int) + off = (pc' : Int)) (K1 : x ≤ 0 → pR sh t f q cl nL rt post pc' L r σ) (K2 : ¬ (x ≤ 0) → pR sh t f q cl nL rt post (pc + 3) L r σ) : pR sh t f q cl nL rt post pc L (.inl x :: r) σ := by
  by_cases hc : x ≤ 0
  · exact pR_step ht (fun ls hl => ⟨ls, by rw [pn_if_le]; unfold pm_if; simp only; rw [if_pos (decide_eq_true hc)]; unfold pm_j; rw [hj, if_pos (Int.natCast_nonneg pc')]; rfl, hl⟩) (K1 hc)
  · exact pR_step ht (fun ls hl => ⟨ls, by rw [pn_if_le]; unfold pm_if; simp only; rw [if_neg (fun z => hc (of_decide_eq_true z))], hl⟩) (K2 hc)
theorem pr_ic_eq {off : Int} {x y : Int32} (ht : pm_tb t pc = some (.if_icmp .eq off, ln)) (hj : (pc : Int) + off = (pc' : Int)) (K1 : x = y → pR sh t f q cl nL rt post pc' L r σ) (K2 : ¬ (x = y) → pR sh t f q cl nL rt post (pc + 3) L r σ) : pR sh t f q cl nL rt post pc L (.inl y :: .inl x :: r) σ := by
  by_cases hc : x = y
  · exact pR_step ht (fun ls hl => ⟨ls, by rw [pn_ic_eq]; unfold pm_ic; simp only; rw [if_pos (decide_eq_true hc)]; unfold pm_j; rw [hj, if_pos (Int.natCast_nonneg pc')]; rfl, hl⟩) (K1 hc)
  · exact pR_step ht (fun ls hl => ⟨ls, by rw [pn_ic_eq]; unfold pm_ic; simp only; rw [if_neg (fun z => hc (of_decide_eq_true z))], hl⟩) (K2 hc)
theorem pr_ic_ne {off : Int} {x y : Int32} (ht : pm_tb t pc = some (.if_icmp .ne off, ln)) (hj : (pc : Int) + off = (pc' : Int)) (K1 : ¬ x = y → pR sh t f q cl nL rt post pc' L r σ) (K2 : ¬ (¬ x = y) → pR sh t f q cl nL rt post (pc + 3) L r σ) : pR sh t f q cl nL rt post pc L (.inl y :: .inl x :: r) σ := by
  by_cases hc : ¬ x = y
  · exact pR_step ht (fun ls hl => ⟨ls, by rw [pn_ic_ne]; unfold pm_ic; simp only; rw [if_pos (decide_eq_true hc)]; unfold pm_j; rw [hj, if_pos (Int.natCast_nonneg pc')]; rfl, hl⟩) (K1 hc)
  · exact pR_step ht (fun ls hl => ⟨ls, by rw [pn_ic_ne]; unfold pm_ic; simp only; rw [if_neg (fun z => hc (of_decide_eq_true z))], hl⟩) (K2 hc)
theorem pr_ic_lt {off : Int} {x y : Int32} (ht : pm_tb t pc = some (.if_icmp .lt off, ln)) (hj : (pc : Int) + off = (pc' : Int)) (K1 : x < y → pR sh t f q cl nL rt post pc' L r σ) (K2 : ¬ (x < y) → pR sh t f q cl nL rt post (pc + 3) L r σ) : pR sh t f q cl nL rt post pc L (.inl y :: .inl x :: r) σ := by
  by_cases hc : x < y
  · exact pR_step ht (fun ls hl => ⟨ls, by rw [pn_ic_lt]; unfold pm_ic; simp only; rw [if_pos (decide_eq_true hc)]; unfold pm_j; rw [hj, if_pos (Int.natCast_nonneg pc')]; rfl, hl⟩) (K1 hc)
  · exact pR_step ht (fun ls hl => ⟨ls, by rw [pn_ic_lt]; unfold pm_ic; simp only; rw [if_neg (fun z => hc (of_decide_eq_true z))], hl⟩) (K2 hc)
theorem pr_ic_ge {off : Int} {x y : Int32} (ht : pm_tb t pc = some (.if_icmp .ge off, ln)) (hj : (pc : Int) + off = (pc' : Int)) (K1 : y ≤ x → pR sh t f q cl nL rt post pc' L r σ) (K2 : ¬ (y ≤ x) → pR sh t f q cl nL rt post (pc + 3) L r σ) : pR sh t f q cl nL rt post pc L (.inl y :: .inl x :: r) σ := by
  by_cases hc : y ≤ x
  · exact pR_step ht (fun ls hl => ⟨ls, by rw [pn_ic_ge]; unfold pm_ic; simp only; rw [if_pos (decide_eq_true hc)]; unfold pm_j; rw [hj, if_pos (Int.natCast_nonneg pc')]; rfl, hl⟩) (K1 hc)
  · exact pR_step ht (fun ls hl => ⟨ls, by rw [pn_ic_ge]; unfold pm_ic; simp only; rw [if_neg (fun z => hc (of_decide_eq_true z))], hl⟩) (K2 hc)
theorem pr_ic_gt {off : Int} {x y : Int32} (ht : pm_tb t pc = some (.if_icmp .gt off, ln)) (hj : (pc : Int) + off = (pc' : Int)) (K1 : y < x → pR sh t f q cl nL rt post pc' L r σ) (K2 : ¬ (y < x) → pR sh t f q cl nL rt post (pc + 3) L r σ) : pR sh t f q cl nL rt post pc L (.inl y :: .inl x :: r) σ := by
  by_cases hc : y < x
  · exact pR_step ht (fun ls hl => ⟨ls, by rw [pn_ic_gt]; unfold pm_ic; simp only; rw [if_pos (decide_eq_true hc)]; unfold pm_j; rw [hj, if_pos (Int.natCast_nonneg pc')]; rfl, hl⟩) (K1 hc)
  · exact pR_step ht (fun ls hl => ⟨ls, by rw [pn_ic_gt]; unfold pm_ic; simp only; rw [if_neg (fun z => hc (of_decide_eq_true z))], hl⟩) (K2 hc)
theorem pr_ic_le {off : Int} {x y : Int32} (ht : pm_tb t pc = some (.if_icmp .le off, ln)) (hj : (pc : Int) + off = (pc' : Int)) (K1 : x ≤ y → pR sh t f q cl nL rt post pc' L r σ) (K2 : ¬ (x ≤ y) → pR sh t f q cl nL rt post (pc + 3) L r σ) : pR sh t f q cl nL rt post pc L (.inl y :: .inl x :: r) σ := by
  by_cases hc : x ≤ y
  · exact pR_step ht (fun ls hl => ⟨ls, by rw [pn_ic_le]; unfold pm_ic; simp only; rw [if_pos (decide_eq_true hc)]; unfold pm_j; rw [hj, if_pos (Int.natCast_nonneg pc')]; rfl, hl⟩) (K1 hc)
  · exact pR_step ht (fun ls hl => ⟨ls, by rw [pn_ic_le]; unfold pm_ic; simp only; rw [if_neg (fun z => hc (of_decide_eq_true z))], hl⟩) (K2 hc)
theorem pr_tsO {d lo hi : Int} {o : Array Int} {x : Int32} (ht : pm_tb t pc = some (.tableswitch d lo hi o, ln)) (hc : x.toInt < lo ∨ hi < x.toInt) (hj : (pc : Int) + d = (pc' : Int)) (K : pR sh t f q cl nL rt post (pc') L (r) σ) : pR sh t f q cl nL rt post pc L (.inl x :: r) σ := pR_step ht (fun ls hl => ⟨ls, by rw [pn_tsw]; unfold pm_tsw; simp only; rw [if_pos hc]; unfold pm_j; rw [hj, if_pos (Int.natCast_nonneg pc')]; rfl, hl⟩) K
theorem pr_tsI {d lo hi off : Int} {o : Array Int} {x : Int32} (ht : pm_tb t pc = some (.tableswitch d lo hi o, ln)) (hc : ¬ (x.toInt < lo ∨ hi < x.toInt)) (ho : o[(x.toInt - lo).toNat]? = some off) (hj : (pc : Int) + off = (pc' : Int)) (K : pR sh t f q cl nL rt post (pc') L (r) σ) : pR sh t f q cl nL rt post pc L (.inl x :: r) σ := pR_step ht (fun ls hl => ⟨ls, by rw [pn_tsw]; unfold pm_tsw; simp only; rw [if_neg hc, ho]; unfold pm_j; simp only; rw [hj, if_pos (Int.natCast_nonneg pc')]; rfl, hl⟩) K
theorem pr_lsw {d off : Int} {ps : Array (Int × Int)} {x : Int32} (ht : pm_tb t pc = some (.lookupswitch d ps, ln)) (hs : (ps.toList.zip (ps.toList.drop 1)).all (fun (a, next) => a.1 < next.1) = true) (ho : Op.lookupswitch.offset ps.toList d x.toInt = off) (hj : (pc : Int) + off = (pc' : Int)) (K : pR sh t f q cl nL rt post (pc') L (r) σ) : pR sh t f q cl nL rt post pc L (.inl x :: r) σ := pR_step ht (fun ls hl => ⟨ls, by rw [pn_lsw]; unfold pm_lsw; simp only; rw [if_pos hs, ho]; unfold pm_j; rw [hj, if_pos (Int.natCast_nonneg pc')]; rfl, hl⟩) K
theorem pr_get0 {idx ci k i : Nat} (ht : pm_tb t pc = some (.getfield idx, ln)) (hf : pm_fb f idx = some (ci, k)) (hs : sh i = .inl ci) (hk : (pm_fk ci)[k]? = some (0)) (K : pR sh t f q cl nL rt post (pc + 3) L (.inl (σ.1 i k) :: r) σ) : pR sh t f q cl nL rt post pc L (.inr (.inr i) :: r) σ := pR_step ht (fun ls hl => ⟨ls, by rw [pn_gf]; unfold pm_gf; rw [hf]; simp only; rw [if_pos hs, hk], hl⟩) K
theorem pr_get1 {idx ci k i : Nat} (ht : pm_tb t pc = some (.getfield idx, ln)) (hf : pm_fb f idx = some (ci, k)) (hs : sh i = .inl ci) (hk : (pm_fk ci)[k]? = some (1)) (K : pR sh t f q cl nL rt post (pc + 3) L (.inl (σ.1 i k) :: r) σ) : pR sh t f q cl nL rt post pc L (.inr (.inr i) :: r) σ := pR_step ht (fun ls hl => ⟨ls, by rw [pn_gf]; unfold pm_gf; rw [hf]; simp only; rw [if_pos hs, hk], hl⟩) K
theorem pr_get2 {idx ci k i : Nat} (ht : pm_tb t pc = some (.getfield idx, ln)) (hf : pm_fb f idx = some (ci, k)) (hs : sh i = .inl ci) (hk : (pm_fk ci)[k]? = some (2)) (K : pR sh t f q cl nL rt post (pc + 3) L (.inr (.inl (σ.2 i k)) :: r) σ) : pR sh t f q cl nL rt post pc L (.inr (.inr i) :: r) σ := pR_step ht (fun ls hl => ⟨ls, by rw [pn_gf]; unfold pm_gf; rw [hf]; simp only; rw [if_pos hs, hk], hl⟩) K
theorem pr_get3 {idx ci k i : Nat} (ht : pm_tb t pc = some (.getfield idx, ln)) (hf : pm_fb f idx = some (ci, k)) (hs : sh i = .inl ci) (hk : (pm_fk ci)[k]? = some (3)) (K : pR sh t f q cl nL rt post (pc + 3) L (.inl (σ.1 i k) :: r) σ) : pR sh t f q cl nL rt post pc L (.inr (.inr i) :: r) σ := pR_step ht (fun ls hl => ⟨ls, by rw [pn_gf]; unfold pm_gf; rw [hf]; simp only; rw [if_pos hs, hk], hl⟩) K
theorem pr_geta {idx ci k i d j : Nat} (ht : pm_tb t pc = some (.getfield idx, ln)) (hf : pm_fb f idx = some (ci, k)) (hs : sh i = .inl ci) (hk : (pm_fk ci)[k]? = some (d + 4)) (hd : i + d = j) (K : pR sh t f q cl nL rt post (pc + 3) L (.inr (.inr j) :: r) σ) : pR sh t f q cl nL rt post pc L (.inr (.inr i) :: r) σ := pR_step ht (fun ls hl => ⟨ls, by rw [pn_gf]; unfold pm_gf; rw [hf]; simp only; rw [if_pos hs, hk]; subst hd; rfl, hl⟩) K
theorem pr_put0 {idx ci k i : Nat} {x : Int32} (ht : pm_tb t pc = some (.putfield idx, ln)) (hf : pm_fb f idx = some (ci, k)) (hs : sh i = .inl ci) (hk : (pm_fk ci)[k]? = some 0) (K : pR sh t f q cl nL rt post (pc + 3) L (r) (pm_ui σ.1 i k x, σ.2)) : pR sh t f q cl nL rt post pc L (.inl x :: .inr (.inr i) :: r) σ := pR_step ht (fun ls hl => ⟨ls, by rw [pn_pf]; unfold pm_pf; rw [hf]; simp only; rw [if_pos hs, hk]; rfl, hl⟩) K
theorem pr_put1 {idx ci k i : Nat} {x : Int32} (ht : pm_tb t pc = some (.putfield idx, ln)) (hf : pm_fb f idx = some (ci, k)) (hs : sh i = .inl ci) (hk : (pm_fk ci)[k]? = some 1) (hx : x = 0 ∨ x = 1) (K : pR sh t f q cl nL rt post (pc + 3) L (r) (pm_ui σ.1 i k x, σ.2)) : pR sh t f q cl nL rt post pc L (.inl x :: .inr (.inr i) :: r) σ := pR_step ht (fun ls hl => ⟨ls, by rw [pn_pf]; unfold pm_pf; rw [hf]; simp only; rw [if_pos hs, hk]; simp only; rw [if_pos hx], hl⟩) K
theorem pr_put2 {idx ci k i : Nat} {x : Int64} (ht : pm_tb t pc = some (.putfield idx, ln)) (hf : pm_fb f idx = some (ci, k)) (hs : sh i = .inl ci) (hk : (pm_fk ci)[k]? = some 2) (K : pR sh t f q cl nL rt post (pc + 3) L (r) (σ.1, pm_uj σ.2 i k x)) : pR sh t f q cl nL rt post pc L (.inr (.inl x) :: .inr (.inr i) :: r) σ := pR_step ht (fun ls hl => ⟨ls, by rw [pn_pf]; unfold pm_pf; rw [hf]; simp only; rw [if_pos hs, hk]; rfl, hl⟩) K
theorem pm_ix {n j : Nat} {x : Int32} (hx : x = nI j) (hj : j < n) (hn : n < 2 ^ 31) : ¬ (x < 0 ∨ n ≤ x.toNatClampNeg) ∧ x.toNatClampNeg = j := by
  subst hx
  exact ⟨nI_in hj hn, nI_clamp (by omega)⟩
theorem pr_ial {i n : Nat} {x : Int32} (ht : pm_tb t pc = some (.iaload, ln)) (j : Nat) (hs : sh i = .inr (0, n)) (hx : x = nI j) (hj : j < n) (hn : n < 2 ^ 31) (K : pR sh t f q cl nL rt post (pc + 1) L (.inl (σ.1 i j) :: r) σ) : pR sh t f q cl nL rt post pc L (.inl x :: .inr (.inr i) :: r) σ := pR_step ht (fun ls hl => ⟨ls, by obtain ⟨h1, h2⟩ := pm_ix hx hj hn; rw [pn_ial]; unfold pm_ial; simp only [hs]; rw [if_neg h1, h2], hl⟩) K
theorem pr_zal {i n : Nat} {x : Int32} (ht : pm_tb t pc = some (.baload, ln)) (j : Nat) (hs : sh i = .inr (2, n)) (hx : x = nI j) (hj : j < n) (hn : n < 2 ^ 31) (K : pR sh t f q cl nL rt post (pc + 1) L (.inl (σ.1 i j) :: r) σ) : pR sh t f q cl nL rt post pc L (.inl x :: .inr (.inr i) :: r) σ := pR_step ht (fun ls hl => ⟨ls, by obtain ⟨h1, h2⟩ := pm_ix hx hj hn; rw [pn_zal]; unfold pm_zal; simp only [hs]; rw [if_neg h1, h2], hl⟩) K
theorem pr_lal {i n : Nat} {x : Int32} (ht : pm_tb t pc = some (.laload, ln)) (j : Nat) (hs : sh i = .inr (1, n)) (hx : x = nI j) (hj : j < n) (hn : n < 2 ^ 31) (K : pR sh t f q cl nL rt post (pc + 1) L (.inr (.inl (σ.2 i j)) :: r) σ) : pR sh t f q cl nL rt post pc L (.inl x :: .inr (.inr i) :: r) σ := pR_step ht (fun ls hl => ⟨ls, by obtain ⟨h1, h2⟩ := pm_ix hx hj hn; rw [pn_lal]; unfold pm_lal; simp only [hs]; rw [if_neg h1, h2], hl⟩) K
theorem pr_aal {i n a : Nat} {x : Int32} (ht : pm_tb t pc = some (.aaload, ln)) (j : Nat) (hs : sh i = .inr (3, n)) (hx : x = nI j) (hj : j < n) (hn : n < 2 ^ 31) (ha : i + 1 + 8 * j = a) (K : pR sh t f q cl nL rt post (pc + 1) L (.inr (.inr a) :: r) σ) : pR sh t f q cl nL rt post pc L (.inl x :: .inr (.inr i) :: r) σ := pR_step ht (fun ls hl => ⟨ls, by obtain ⟨h1, h2⟩ := pm_ix hx hj hn; rw [pn_aal]; unfold pm_aal; simp only [hs]; rw [if_neg h1, h2]; subst ha; rfl, hl⟩) K
theorem pr_ias {i n : Nat} {x : Int32} {y : Int32} (ht : pm_tb t pc = some (.iastore, ln)) (j : Nat) (hs : sh i = .inr (0, n)) (hx : x = nI j) (hj : j < n) (hn : n < 2 ^ 31) (K : pR sh t f q cl nL rt post (pc + 1) L (r) (pm_ui σ.1 i j y, σ.2)) : pR sh t f q cl nL rt post pc L (.inl y :: .inl x :: .inr (.inr i) :: r) σ := pR_step ht (fun ls hl => ⟨ls, by obtain ⟨h1, h2⟩ := pm_ix hx hj hn; rw [pn_ias]; unfold pm_ias; simp only [hs]; rw [if_neg h1, h2], hl⟩) K
theorem pr_zas {i n : Nat} {x : Int32} {y : Int32} (ht : pm_tb t pc = some (.bastore, ln)) (j : Nat) (hs : sh i = .inr (2, n)) (hx : x = nI j) (hj : j < n) (hn : n < 2 ^ 31) (hy : y = 0 ∨ y = 1) (K : pR sh t f q cl nL rt post (pc + 1) L (r) (pm_ui σ.1 i j y, σ.2)) : pR sh t f q cl nL rt post pc L (.inl y :: .inl x :: .inr (.inr i) :: r) σ := pR_step ht (fun ls hl => ⟨ls, by obtain ⟨h1, h2⟩ := pm_ix hx hj hn; rw [pn_zas]; unfold pm_zas; simp only [hs]; rw [if_neg h1, h2]; exact if_pos hy, hl⟩) K
theorem pr_las {i n : Nat} {x : Int32} {y : Int64} (ht : pm_tb t pc = some (.lastore, ln)) (j : Nat) (hs : sh i = .inr (1, n)) (hx : x = nI j) (hj : j < n) (hn : n < 2 ^ 31) (K : pR sh t f q cl nL rt post (pc + 1) L (r) (σ.1, pm_uj σ.2 i j y)) : pR sh t f q cl nL rt post pc L (.inr (.inl y) :: .inl x :: .inr (.inr i) :: r) σ := pR_step ht (fun ls hl => ⟨ls, by obtain ⟨h1, h2⟩ := pm_ix hx hj hn; rw [pn_las]; unfold pm_las; simp only [hs]; rw [if_neg h1, h2], hl⟩) K
theorem pr_al0 {i n : Nat} (ht : pm_tb t pc = some (.arraylength, ln)) (hs : sh i = .inr (0, n)) (K : pR sh t f q cl nL rt post (pc + 1) L (.inl (nI n) :: r) σ) : pR sh t f q cl nL rt post pc L (.inr (.inr i) :: r) σ := pR_step ht (fun ls hl => ⟨ls, by rw [pn_al]; unfold pm_al; simp only [hs]; rfl, hl⟩) K
theorem pr_al1 {i n : Nat} (ht : pm_tb t pc = some (.arraylength, ln)) (hs : sh i = .inr (1, n)) (K : pR sh t f q cl nL rt post (pc + 1) L (.inl (nI n) :: r) σ) : pR sh t f q cl nL rt post pc L (.inr (.inr i) :: r) σ := pR_step ht (fun ls hl => ⟨ls, by rw [pn_al]; unfold pm_al; simp only [hs]; rfl, hl⟩) K
theorem pr_callV {idx a : Nat} {rc : Option Nat} {g : pFN} {σ' : pST} {rv : Option pSV} (ht : pm_tb t pc = some (.invokevirtual idx, ln)) (hc : pm_lb cl idx = some (a, rc, g)) (hg : a ≤ st.length ∧ pm_cs (st.drop a) ≤ 8 ∧ rc.isNone = false) (hr : g σ (st.take a).reverse = some (σ', rv)) (K : pR sh t f q cl nL rt post (pc + 3) L (rv.toList ++ st.drop a) σ') : pR sh t f q cl nL rt post pc L (st) σ := pR_step ht (fun ls hl => ⟨ls, by rw [pn_callV]; unfold pm_call; rw [hc]; simp only; rw [if_pos hg, hr], hl⟩) K
theorem pr_callS {idx a : Nat} {rc : Option Nat} {g : pFN} {σ' : pST} {rv : Option pSV} (ht : pm_tb t pc = some (.invokestatic idx, ln)) (hc : pm_lb cl idx = some (a, rc, g)) (hg : a ≤ st.length ∧ pm_cs (st.drop a) ≤ 8 ∧ rc.isNone = true) (hr : g σ (st.take a).reverse = some (σ', rv)) (K : pR sh t f q cl nL rt post (pc + 3) L (rv.toList ++ st.drop a) σ') : pR sh t f q cl nL rt post pc L (st) σ := pR_step ht (fun ls hl => ⟨ls, by rw [pn_callS]; unfold pm_call; rw [hc]; simp only; rw [if_pos hg, hr], hl⟩) K
theorem pr_ret (ht : pm_tb t pc = some (.return_, ln)) (hr : rt = 0) (hp : post (σ, none)) : pR sh t f q cl nL rt post pc L [] σ := by
  subst hr
  exact pR_end ht (fun ls => rfl) hp
theorem pr_iret {x : Int32} (ht : pm_tb t pc = some (.ireturn, ln)) (hr : rt = 1) (hp : post (σ, some (.inl x))) : pR sh t f q cl nL rt post pc L [.inl x] σ := by
  subst hr
  exact pR_end ht (fun ls => rfl) hp
theorem pr_zret {x : Int32} (ht : pm_tb t pc = some (.ireturn, ln)) (hr : rt = 2) (hx : x = 0 ∨ x = 1) (hp : post (σ, some (.inl x))) : pR sh t f q cl nL rt post pc L [.inl x] σ := by
  subst hr
  exact pR_end ht (fun ls => if_pos hx) hp
theorem pr_lret {x : Int64} (ht : pm_tb t pc = some (.lreturn, ln)) (hr : rt = 3) (hp : post (σ, some (.inr (.inl x)))) : pR sh t f q cl nL rt post pc L [.inr (.inl x)] σ := by
  subst hr
  exact pR_end ht (fun ls => rfl) hp
end PR
theorem pm_has_self : ∀ (vs : List pSV) (i : Nat), pm_has (pm_en i vs) (pm_en i vs) := by
  have key : ∀ (vs : List pSV) (i : Nat) (q : Nat × pSV), q ∈ pm_en i vs → i ≤ q.1 ∧ pm_lk (pm_en i vs) q.1 = some q.2 := by
    intro vs
    induction vs with
    | nil => intro i q h; cases h
    | cons v vs ih =>
      intro i q h
      rcases List.mem_cons.mp h with rfl | h
      · exact ⟨Nat.le_refl _, by simp [pm_lk, pm_en]⟩
      · obtain ⟨h1, h2⟩ := ih _ q h
        have h3 : i < q.1 := by
          split at h1 <;> omega
        refine ⟨by omega, ?_⟩
        have hne : (i == q.1) = false := by simp only [beq_eq_false_iff_ne]; omega
        show pm_lk ((i, v) :: pm_en _ vs) q.1 = some q.2
        unfold pm_lk at h2 ⊢
        rw [List.find?_cons, hne]
        exact h2
  exact fun vs i q hq => (key vs i q hq).2
theorem pR_met {sh : pSH} {ci i : Nat} {t : List (Nat × (Instr × Nat))} {f : List (Nat × (Nat × Nat))} {k : List (Nat × (Int32 ⊕ Int64))} {cl : List (Nat × (Nat × (Option Nat × pFN)))} {nL rt : Nat} {σ : pST} {vs : List pSV} {post : pRT → Prop} (hs : sh i = .inl ci) (hz : pm_sz (.inr (.inr i) :: vs) ≤ nL) (h : pR sh t f k cl nL rt post 0 (pm_en 0 (.inr (.inr i) :: vs)) [] σ) : ∃ x, pm_met sh (some ci) t f k cl nL rt σ (.inr (.inr i) :: vs) = some x ∧ post x := by
  obtain ⟨n, x, h1, h2⟩ := h _ (pm_has_self _ _)
  exact ⟨x, pm_met_of n hs hz h1, h2⟩
theorem pR_metS {sh : pSH} {t : List (Nat × (Instr × Nat))} {f : List (Nat × (Nat × Nat))} {k : List (Nat × (Int32 ⊕ Int64))} {cl : List (Nat × (Nat × (Option Nat × pFN)))} {nL rt : Nat} {σ : pST} {vs : List pSV} {post : pRT → Prop} (hz : pm_sz vs ≤ nL) (h : pR sh t f k cl nL rt post 0 (pm_en 0 vs) [] σ) : ∃ x, pm_met sh none t f k cl nL rt σ vs = some x ∧ post x := by
  obtain ⟨n, x, h1, h2⟩ := h _ (pm_has_self _ _)
  exact ⟨x, pm_met_ofS n hz h1, h2⟩
