/-! ===== a method's pure function: what its code answers, with as many steps as it takes ===== -/
noncomputable def pm_any (f : Nat → Option pRT) : Option pRT := @dite _ (∃ n x, f n = some x) (Classical.propDecidable _) (fun h => f (Classical.choose h)) (fun _ => none)
theorem pm_any_ex {f : Nat → Option pRT} {x : pRT} (h : pm_any f = some x) : ∃ n, f n = some x := by
  unfold pm_any at h
  by_cases q : ∃ n x, f n = some x
  · rw [dif_pos q] at h
    exact ⟨_, h⟩
  · rw [dif_neg q] at h
    cases h
theorem pm_any_of {f : Nat → Option pRT} (hm : ∀ n x, f n = some x → f (n + 1) = some x) {n : Nat} {x : pRT} (h : f n = some x) : pm_any f = some x := by
  have up : ∀ k n x, f n = some x → f (n + k) = some x := by
    intro k
    induction k with
    | zero => intro n x h; exact h
    | succ k ih => intro n x h; exact hm _ _ (ih n x h)
  have q : ∃ n x, f n = some x := ⟨n, x, h⟩
  unfold pm_any
  rw [dif_pos q]
  obtain ⟨y, hy⟩ := Classical.choose_spec q
  have h1 := up n (Classical.choose q) y hy
  have h2 := up (Classical.choose q) n x h
  rw [Nat.add_comm] at h2
  rw [h1] at h2
  rw [hy]
  exact h2
theorem pm_run_mono {sh : pSH} {tab : Nat → Option (Instr × Nat)} {fld : Nat → Option (Nat × Nat)} {cst : Nat → Option (Int32 ⊕ Int64)} {cal : pCL} {nL rt : Nat} {x : pRT} : ∀ (n pc : Nat) (ls : pLS) (st : List pSV) (σ : pST), pm_run sh tab fld cst cal nL rt n pc ls st σ = some x → pm_run sh tab fld cst cal nL rt (n + 1) pc ls st σ = some x := by
  intro n
  induction n with
  | zero => intro pc ls st σ h; cases h
  | succ n ih =>
    intro pc ls st σ h
    unfold pm_run at h ⊢
    cases ht : tab pc with
    | none => rw [ht] at h; cases h
    | some q =>
      rw [ht] at h
      simp only at h ⊢
      cases hi : pm_ins sh fld cst cal nL rt q.1 pc ls st σ with
      | none => rw [hi] at h; cases h
      | some w =>
        rw [hi] at h
        rcases w with ⟨a, b, d, g⟩ | r
        · exact ih a b d g h
        · exact h
/-- tables as lists -/
def pm_tb (l : List (Nat × (Instr × Nat))) (pc : Nat) : Option (Instr × Nat) := (l.find? (fun q => q.1 == pc)).map (fun q => q.2)
def pm_fb (l : List (Nat × (Nat × Nat))) (idx : Nat) : Option (Nat × Nat) := (l.find? (fun q => q.1 == idx)).map (fun q => q.2)
def pm_kb (l : List (Nat × (Int32 ⊕ Int64))) (idx : Nat) : Option (Int32 ⊕ Int64) := (l.find? (fun q => q.1 == idx)).map (fun q => q.2)
def pm_lb (l : List (Nat × (Nat × (Option Nat × pFN)))) (idx : Nat) : Option (Nat × (Option Nat × pFN)) := (l.find? (fun q => q.1 == idx)).map (fun q => q.2)
theorem pm_find {α : Type} {l : List (Nat × α)} {i : Nat} {v : α} (h : (l.find? (fun q => q.1 == i)).map (fun q => q.2) = some v) : (i, v) ∈ l := by
  cases hf : l.find? (fun q => q.1 == i) with
  | none => rw [hf] at h; cases h
  | some q =>
    rw [hf] at h
    have h1 := List.mem_of_find?_eq_some hf
    have h2 := List.find?_some hf
    have h3 : q.1 = i := by simpa using h2
    have h4 : q.2 = v := by simpa using h
    rw [← h3, ← h4]
    exact h1
abbrev pm_code (sh : pSH) (t : List (Nat × (Instr × Nat))) (f : List (Nat × (Nat × Nat))) (k : List (Nat × (Int32 ⊕ Int64))) (cl : List (Nat × (Nat × (Option Nat × pFN)))) (nL rt : Nat) : Nat → Nat → pLS → List pSV → pST → Option pRT := pm_run sh (pm_tb t) (pm_fb f) (pm_kb k) (pm_lb cl) nL rt
noncomputable def pm_met (sh : pSH) (rc : Option Nat) (t : List (Nat × (Instr × Nat))) (f : List (Nat × (Nat × Nat))) (k : List (Nat × (Int32 ⊕ Int64))) (cl : List (Nat × (Nat × (Option Nat × pFN)))) (nL rt : Nat) : pFN := pm_fn sh rc nL (fun ls σ => pm_any (fun n => pm_code sh t f k cl nL rt n 0 ls [] σ))
theorem pm_met_con {l : Launch} {y : MethodName} {ws ws' : List Cond} {rm : Room} {cc : ByteArray} {nL rt N : Nat} {sh : pSH} {rc : Option Nat} {t : List (Nat × (Instr × Nat))} {f : List (Nat × (Nat × Nat))} {k : List (Nat × (Int32 ⊕ Int64))} {cl : List (Nat × (Nat × (Option Nat × pFN)))} (hy : plainName y.cls = true) (hw : ws = Cond.code y cc nL (pm_rt rt) :: ws') (hN : ∀ i, N ≤ i → sh i = .inr (9, 0)) (htab : ∀ q ∈ t, decode cc q.1 = .ok q.2 ∧ pm_tok q.1 q.2.1 q.2.2 = true) (hfld : ∀ q ∈ f, pm_Fok ws y.cls q.1 q.2.1 q.2.2) (hcst : ∀ q ∈ k, pm_Kok ws y.cls q.1 q.2) (hcal : ∀ q ∈ cl, pm_Cal l ws rm y.cls sh N q.1 q.2.1 q.2.2.1 q.2.2.2) : pm_Con l y ws rm sh N (pm_met sh rc t f k cl nL rt) := by
  intro D lay cy sz σ vs σ' r hf
  have hf0 := hf
  obtain ⟨hz, hrun⟩ := pm_fn_run hf
  obtain ⟨n, hn⟩ := pm_any_ex hrun
  refine pm_con (cc := cc) (nL := nL) (rt := rt) (rc := rc) (tab := pm_tb t) (fld := pm_fb f) (cst := pm_kb k) (cal := pm_lb cl) hy hw hN (fun pc q h => htab (pc, q) (pm_find h)) (fun idx ci j h => hfld (idx, ci, j) (pm_find h)) (fun idx v h => hcst (idx, v) (pm_find h)) (fun idx a rc f9 h => hcal (idx, a, rc, f9) (pm_find h)) n D lay cy sz σ vs σ' r ?_
  unfold pm_met pm_fn at hf0
  unfold pm_fn
  rw [if_pos hz] at hf0 ⊢
  split at hf0
  · exact hn
  · split at hf0
    · rename_i hs
      simp only
      rw [if_pos hs]
      exact hn
    · cases hf0
  · cases hf0
theorem pm_met_recv {sh : pSH} {ci : Nat} {t : List (Nat × (Instr × Nat))} {f : List (Nat × (Nat × Nat))} {k : List (Nat × (Int32 ⊕ Int64))} {cl : List (Nat × (Nat × (Option Nat × pFN)))} {nL rt : Nat} : ∀ (σ : pST) (vs : List pSV) (x : pRT), pm_met sh (some ci) t f k cl nL rt σ vs = some x → ∃ i vs', vs = .inr (.inr i) :: vs' ∧ sh i = .inl ci := fun _ _ _ h => pm_fn_recv h
/-- how a method's answer is shown: by a run -/
theorem pm_met_of {sh : pSH} {ci i : Nat} {t : List (Nat × (Instr × Nat))} {f : List (Nat × (Nat × Nat))} {k : List (Nat × (Int32 ⊕ Int64))} {cl : List (Nat × (Nat × (Option Nat × pFN)))} {nL rt : Nat} {σ : pST} {vs : List pSV} {x : pRT} (n : Nat) (hs : sh i = .inl ci) (hz : pm_sz (.inr (.inr i) :: vs) ≤ nL) (h : pm_code sh t f k cl nL rt n 0 (pm_en 0 (.inr (.inr i) :: vs)) [] σ = some x) : pm_met sh (some ci) t f k cl nL rt σ (.inr (.inr i) :: vs) = some x := by
  unfold pm_met pm_fn
  rw [if_pos hz]
  simp only
  rw [if_pos hs]
  exact pm_any_of (fun n x h => pm_run_mono n _ _ _ _ h) h
theorem pm_met_ofS {sh : pSH} {t : List (Nat × (Instr × Nat))} {f : List (Nat × (Nat × Nat))} {k : List (Nat × (Int32 ⊕ Int64))} {cl : List (Nat × (Nat × (Option Nat × pFN)))} {nL rt : Nat} {σ : pST} {vs : List pSV} {x : pRT} (n : Nat) (hz : pm_sz vs ≤ nL) (h : pm_code sh t f k cl nL rt n 0 (pm_en 0 vs) [] σ = some x) : pm_met sh none t f k cl nL rt σ vs = some x := by
  unfold pm_met pm_fn
  rw [if_pos hz]
  exact pm_any_of (fun n x h => pm_run_mono n _ _ _ _ h) h
/-! ===== the shapes: the cells of the class by their numbers (288), those of the reference (44) ===== -/
/-- a bench's cells from its own on: 135 -/
def pm_bn (j : Nat) : Nat ⊕ (Nat × Nat) := if j < 7 then (match j with
    | 0 => .inl 1
    | 1 => .inl 4
    | 2 => .inr (1, 32)
    | 3 => .inr (0, 512)
    | 4 => .inr (0, 512)
    | 5 => .inr (1, 512)
    | _ => .inr (3, 16))
  else (match (j - 7) % 8 with
    | 0 => .inl 0
    | 1 => .inr (1, 32)
    | 2 => .inr (1, 12)
    | 3 => .inr (1, 4)
    | 4 => .inr (1, 32)
    | _ => .inr (0, 12))
def shX (i : Nat) : Nat ⊕ (Nat × Nat) := if i < 9 then (match i with
    | 0 => .inl 6
    | 1 => .inr (1, 32)
    | 2 => .inl 2
    | 3 => .inr (0, 16)
    | 4 => .inr (0, 192)
    | 5 => .inr (0, 192)
    | 6 => .inr (0, 192)
    | 7 => .inr (1, 192)
    | _ => .inl 5)
  else if i < 144 then pm_bn (i - 9)
  else if i < 153 then (match i - 144 with
    | 0 => .inl 3
    | 1 => .inr (0, 200)
    | 2 => .inr (0, 200)
    | 3 => .inr (0, 16)
    | 4 => .inr (0, 16)
    | 5 => .inr (0, 16)
    | _ => .inr (0, 4))
  else if i < 288 then pm_bn (i - 153) else .inr (9, 0)
theorem shX_N : ∀ i, 288 ≤ i → shX i = .inr (9, 0) := fun i h => by
  unfold shX
  rw [if_neg (by omega), if_neg (by omega), if_neg (by omega), if_neg (by omega)]
def shM (i : Nat) : Nat ⊕ (Nat × Nat) := if i < 44 then ([.inl 7, .inr (1, 32), .inr (0, 16), .inr (0, 192), .inr (0, 192), .inr (0, 192), .inr (1, 192), .inr (0, 16), .inr (1, 64), .inr (2, 16), .inr (2, 512), .inr (1, 512), .inr (0, 16), .inr (0, 512), .inr (0, 512), .inr (0, 512), .inr (1, 512), .inr (0, 16), .inr (1, 192), .inr (0, 16), .inr (0, 16), .inr (2, 512), .inr (2, 512), .inr (1, 512), .inr (0, 512), .inr (0, 16), .inr (0, 16), .inr (0, 16), .inr (0, 4), .inr (0, 4), .inr (0, 4), .inr (0, 16), .inr (0, 200), .inr (0, 200), .inr (1, 192), .inr (0, 192), .inr (2, 16), .inr (0, 16), .inr (0, 16), .inr (0, 16), .inr (0, 16), .inr (1, 32), .inr (1, 32), .inr (1, 4)] : List (Nat ⊕ (Nat × Nat))).getD i (.inr (9, 0)) else .inr (9, 0)
theorem shM_N : ∀ i, 44 ≤ i → shM i = .inr (9, 0) := fun i h => by
  unfold shM
  rw [if_neg (by omega)]
