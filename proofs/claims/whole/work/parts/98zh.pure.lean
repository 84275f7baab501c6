/-! ===== the start, and the whole ===== -/
def B00 : BkS := mkBkS 0 (fun _ => 0) (fun _ => 0) (fun _ => 0) (fun _ => 0) (fun _ => 0)
theorem bk00 : BkOK B00 := ⟨Nat.zero_le _, fun _ _ => Nat.zero_le _, fun _ _ => ⟨Nat.zero_le _, (by decide : 0 < 4), (by decide : 0 < 4), fun e => absurd e (by decide : ¬ 0 = 6)⟩⟩
theorem sX_s0 : ∀ c, c < 16 → sX0.1 (16 + 8 * c) 0 = nI c := by decide +kernel
theorem sX_s1 : ∀ c, c < 16 → sX0.1 (160 + 8 * c) 0 = nI c := by decide +kernel
theorem rf00 : RF sX0 0 (S0 fun _ => 0) 0 := by
  refine ⟨sX_s0, ⟨fun k j _ _ => ⟨?_, Nat.zero_le _⟩, fun k j _ _ h => absurd rfl h, fun k _ => rfl⟩, fun c hc => absurd hc (Nat.not_lt_zero _), fun c hc => absurd hc (Nat.not_lt_zero _), ?_, ?_, ?_, ?_, ?_, ?_, ?_, fun i _ hi => absurd hi (Nat.not_lt_zero _)⟩
  · exact sX0_z 12 0 512 (by decide) _
  · exact (by decide +kernel : sX0.1 9 2 = nI 0)
  · exact (by decide +kernel : sX0.1 8 2 = nI 0)
  · exact (by decide +kernel : sX0.1 8 6 = 0)
  · exact (by decide +kernel : sX0.1 8 3 = nI 0)
  · exact (by decide +kernel : sX0.1 8 4 = nI 0)
  · exact (by decide +kernel : sX0.1 8 5 = nI 0)
  · exact (by decide +kernel : sX0.1 144 0 = nI 0)
theorem mf00 : RMF sM0 0 (S0 fun _ => 0) 0 := by
  refine ⟨⟨?_, ?_, ?_, ?_, ?_, ?_, ?_, ?_, ?_⟩, fun i _ hi => absurd hi (Nat.not_lt_zero _), fun c hc => absurd hc (Nat.not_lt_zero _), ?_, fun d e hd => absurd hd (Nat.not_lt_zero _)⟩
  · exact (by decide +kernel : sM0.1 0 39 = nI 0)
  · exact (by decide +kernel : sM0.1 0 40 = nI 0)
  · exact (by decide +kernel : sM0.1 0 41 = 0)
  · exact (by decide +kernel : sM0.1 0 42 = nI 0)
  · exact (by decide +kernel : sM0.1 0 43 = nI 0)
  · exact (by decide +kernel : sM0.1 0 44 = nI 0)
  · exact (by decide +kernel : sM0.1 0 22 = nI 0)
  · exact (by decide +kernel : sM0.1 0 47 = nI 0)
  · exact (by decide +kernel : sM0.1 0 45 = nI 0)
  · exact (by decide +kernel : sM0.1 0 50 = nI 0)
theorem inv00 : InvP 0 sX0 sM0 := by
  refine ⟨B00, fun _ => 0, 8, 0, S0 fun _ => 0, 0, bk00, Nat.le_refl _, ⟨?_, fun c _ => ?_, fun i _ => ⟨?_, ?_, ?_, rfl⟩⟩, ⟨?_, fun c _ => ?_, fun i _ => ⟨?_, ?_, ?_, rfl⟩⟩, fun k _ => ⟨rfl, rfl⟩, ⟨by decide, by decide, ?_, ?_⟩, fun y => .inl ?_, sX_s1, Nat.zero_le _, rf00, mf00, rfl, Nat.zero_le _⟩
  · exact (by decide +kernel : sX0.1 2 0 = nI 0)
  · exact sX0_z 3 0 16 (by decide) c
  · exact sX0_z 4 0 192 (by decide) i
  · exact sX0_z 5 0 192 (by decide) i
  · exact sX0_z 6 0 192 (by decide) i
  · exact (by decide +kernel : sM0.1 0 1 = nI 0)
  · exact sM0_z 2 0 16 (by decide) c
  · exact sM0_z 3 0 192 (by decide) i
  · exact sM0_z 4 0 192 (by decide) i
  · exact sM0_z 5 0 192 (by decide) i
  · exact (by decide +kernel : sX0.1 0 4 = nI 8)
  · exact (by decide +kernel : sM0.1 0 2 = nI 8)
  · exact sM0_z 22 2 512 (by decide) y
theorem ops_ok : PureStep InvP := fun j k σ τ a hj hk h => match k, hk with
  | 0, _ => op_0 h
  | 1, _ => op_1 h
  | 2, _ => op_2 h
  | 3, _ => op_3 h
  | 4, _ => op_4 h
  | 5, _ => op_5 hj h
  | 6, _ => op_6 h
  | 7, _ => op_7 h
  | 8, _ => op_8 h
  | 9, _ => op_9 h
  | 10, _ => op_10 h
  | 11, _ => op_11 h
  | 12, _ => op_12 h
  | 13, _ => op_13 h
  | n + 14, hk => absurd hk (Nat.not_lt.mpr (Nat.le_add_left 14 n))
theorem pure_ok : ∃ Inv : Nat → pST → pST → Prop, PureStep Inv ∧ (∀ j σ τ, Inv j σ τ → Inv (j + 1) σ τ) ∧ Inv 0 sX0 sM0 :=
  ⟨InvP, ops_ok, fun j σ τ ⟨B, bf, bd, n, S, t, h⟩ => ⟨B, bf, bd, n, S, t, inv_up h⟩, inv00⟩
