set_option maxRecDepth 100000 in
theorem ev_X0_perform_0 (σ : pST) {a : Nat} (ha : isA a) {r s : Nat} (hr : r < 4) (hs : s < 4) (v : Int64) : kX0_perform σ [.inr (.inr a), .inl (nI 0), .inl (nI r), .inl (nI s), .inr (.inl v)] = some (((σ.1, pm_uj (σ.2) (a + 3) r v), none)) := by
  have key : ∃ x, kX0_perform σ [.inr (.inr a), .inl (nI 0), .inl (nI r), .inl (nI s), .inr (.inl v)] = some x ∧ x = ((σ.1, pm_uj (σ.2) (a + 3) r v), none) := by
    refine pR_met (post := fun x => x = ((σ.1, pm_uj (σ.2) (a + 3) r v), none)) ha.1 (Nat.le_of_ble_eq_true rfl) ?_
    show pR _ _ _ _ _ _ _ _ 0 [(0, .inr (.inr a)), (1, .inl (nI 0)), (2, .inl (nI r)), (3, .inl (nI s)), (4, .inr (.inl v))] [] σ
    refine pr_iload_n tX0_perform_0 1 rfl ?_
    refine pr_tsI (off := 47) (pc' := 48) tX0_perform_1 (by decide) rfl rfl ?_
    refine pr_aload_n tX0_perform_48 0 rfl ?_
    refine pr_geta (j := a + 3) tX0_perform_49 rfl ha.1 rfl rfl ?_
    refine pr_iload_n tX0_perform_52 2 rfl ?_
    refine pr_lload tX0_perform_53 4 rfl ?_
    refine pr_las tX0_perform_55 r ha.2.2.2.1 rfl (by omega) (by decide) ?_
    obtain ⟨σ1, eσ1⟩ : ∃ z : pST, z = (σ.1, pm_uj σ.2 (a + 3) r v) := ⟨_, rfl⟩
    rw [← eσ1]
    refine pr_goto (pc' := 192) tX0_perform_56 rfl ?_
    refine pr_ret tX0_perform_192 rfl ?_
    rw [eσ1]
    try rfl
  obtain ⟨x, h1, h2⟩ := key
  rw [h1, h2]

set_option maxRecDepth 100000 in
theorem ev_X0_perform_2 (σ : pST) {a : Nat} (ha : isA a) {r s : Nat} (hr : r < 4) (hs : s < 4) (v : Int64) {k : Nat} (hk : k < 32) (hv : ((v + σ.2 (a + 3) s) &&& 31).toInt32 = nI k) : kX0_perform σ [.inr (.inr a), .inl (nI 2), .inl (nI r), .inl (nI s), .inr (.inl v)] = some (((pm_ui (σ.1) a 12 (σ.1 a 12 ||| (nI 1 <<< (nI k &&& 31))), pm_uj (σ.2) (a + 1) k (σ.2 (a + 3) r)), none)) := by
  have key : ∃ x, kX0_perform σ [.inr (.inr a), .inl (nI 2), .inl (nI r), .inl (nI s), .inr (.inl v)] = some x ∧ x = ((pm_ui (σ.1) a 12 (σ.1 a 12 ||| (nI 1 <<< (nI k &&& 31))), pm_uj (σ.2) (a + 1) k (σ.2 (a + 3) r)), none) := by
    refine pR_met (post := fun x => x = ((pm_ui (σ.1) a 12 (σ.1 a 12 ||| (nI 1 <<< (nI k &&& 31))), pm_uj (σ.2) (a + 1) k (σ.2 (a + 3) r)), none)) ha.1 (Nat.le_of_ble_eq_true rfl) ?_
    show pR _ _ _ _ _ _ _ _ 0 [(0, .inr (.inr a)), (1, .inl (nI 2)), (2, .inl (nI r)), (3, .inl (nI s)), (4, .inr (.inl v))] [] σ
    refine pr_iload_n tX0_perform_0 1 rfl ?_
    refine pr_tsI (off := 58) (pc' := 59) tX0_perform_1 (by decide) rfl rfl ?_
    refine pr_aload_n tX0_perform_59 0 rfl ?_
    refine pr_aload_n tX0_perform_60 0 rfl ?_
    refine pr_iload_n tX0_perform_61 3 rfl ?_
    refine pr_lload tX0_perform_62 4 rfl ?_
    refine pr_callV tX0_perform_64 rfl ⟨Nat.le_of_ble_eq_true rfl, Nat.le_of_ble_eq_true rfl, rfl⟩ ((ev_X0_leafAt σ ha hs v).trans (by rw [hv])) ?_
    refine pR_eq (st' := [.inl (nI k), .inr (.inr a)]) rfl rfl ?_
    refine pr_aload_n tX0_perform_67 0 rfl ?_
    refine pr_geta (j := a + 3) tX0_perform_68 rfl ha.1 rfl rfl ?_
    refine pr_iload_n tX0_perform_71 2 rfl ?_
    refine pr_lal tX0_perform_72 r ha.2.2.2.1 rfl (by omega) (by decide) ?_
    refine pr_callV tX0_perform_73 rfl ⟨Nat.le_of_ble_eq_true rfl, Nat.le_of_ble_eq_true rfl, rfl⟩ (ev_X0_write σ ha hk _) ?_
    refine pR_eq (st' := []) rfl rfl ?_
    refine pr_goto (pc' := 192) tX0_perform_76 rfl ?_
    refine pr_ret tX0_perform_192 rfl ?_
    rfl
  obtain ⟨x, h1, h2⟩ := key
  rw [h1, h2]

set_option maxRecDepth 100000 in
theorem ev_X0_perform_3 (σ : pST) {a : Nat} (ha : isA a) {r s : Nat} (hr : r < 4) (hs : s < 4) (v : Int64) : kX0_perform σ [.inr (.inr a), .inl (nI 3), .inl (nI r), .inl (nI s), .inr (.inl v)] = some (((σ.1, pm_uj (σ.2) (a + 3) r (σ.2 (a + 3) r + σ.2 (a + 3) s)), none)) := by
  have key : ∃ x, kX0_perform σ [.inr (.inr a), .inl (nI 3), .inl (nI r), .inl (nI s), .inr (.inl v)] = some x ∧ x = ((σ.1, pm_uj (σ.2) (a + 3) r (σ.2 (a + 3) r + σ.2 (a + 3) s)), none) := by
    refine pR_met (post := fun x => x = ((σ.1, pm_uj (σ.2) (a + 3) r (σ.2 (a + 3) r + σ.2 (a + 3) s)), none)) ha.1 (Nat.le_of_ble_eq_true rfl) ?_
    show pR _ _ _ _ _ _ _ _ 0 [(0, .inr (.inr a)), (1, .inl (nI 3)), (2, .inl (nI r)), (3, .inl (nI s)), (4, .inr (.inl v))] [] σ
    refine pr_iload_n tX0_perform_0 1 rfl ?_
    refine pr_tsI (off := 78) (pc' := 79) tX0_perform_1 (by decide) rfl rfl ?_
    refine pr_aload_n tX0_perform_79 0 rfl ?_
    refine pr_geta (j := a + 3) tX0_perform_80 rfl ha.1 rfl rfl ?_
    refine pr_iload_n tX0_perform_83 2 rfl ?_
    refine pr_dup2 tX0_perform_84 ⟨rfl, rfl⟩ ?_
    refine pr_lal tX0_perform_85 r ha.2.2.2.1 rfl (by omega) (by decide) ?_
    refine pr_aload_n tX0_perform_86 0 rfl ?_
    refine pr_geta (j := a + 3) tX0_perform_87 rfl ha.1 rfl rfl ?_
    refine pr_iload_n tX0_perform_90 3 rfl ?_
    refine pr_lal tX0_perform_91 s ha.2.2.2.1 rfl (by omega) (by decide) ?_
    refine pr_ladd (v := ((σ.2 (a + 3) r) + (σ.2 (a + 3) s))) tX0_perform_92 (rfl) ?_
    refine pr_las tX0_perform_93 r ha.2.2.2.1 rfl (by omega) (by decide) ?_
    obtain ⟨σ1, eσ1⟩ : ∃ z : pST, z = (σ.1, pm_uj σ.2 (a + 3) r ((σ.2 (a + 3) r) + (σ.2 (a + 3) s))) := ⟨_, rfl⟩
    rw [← eσ1]
    refine pr_goto (pc' := 192) tX0_perform_94 rfl ?_
    refine pr_ret tX0_perform_192 rfl ?_
    rw [eσ1]
    try rfl
  obtain ⟨x, h1, h2⟩ := key
  rw [h1, h2]

set_option maxRecDepth 100000 in
theorem ev_X0_perform_4 (σ : pST) {a : Nat} (ha : isA a) {r s : Nat} (hr : r < 4) (hs : s < 4) (v : Int64) : kX0_perform σ [.inr (.inr a), .inl (nI 4), .inl (nI r), .inl (nI s), .inr (.inl v)] = some (((σ.1, pm_uj (σ.2) (a + 3) r (σ.2 (a + 3) r - σ.2 (a + 3) s)), none)) := by
  have key : ∃ x, kX0_perform σ [.inr (.inr a), .inl (nI 4), .inl (nI r), .inl (nI s), .inr (.inl v)] = some x ∧ x = ((σ.1, pm_uj (σ.2) (a + 3) r (σ.2 (a + 3) r - σ.2 (a + 3) s)), none) := by
    refine pR_met (post := fun x => x = ((σ.1, pm_uj (σ.2) (a + 3) r (σ.2 (a + 3) r - σ.2 (a + 3) s)), none)) ha.1 (Nat.le_of_ble_eq_true rfl) ?_
    show pR _ _ _ _ _ _ _ _ 0 [(0, .inr (.inr a)), (1, .inl (nI 4)), (2, .inl (nI r)), (3, .inl (nI s)), (4, .inr (.inl v))] [] σ
    refine pr_iload_n tX0_perform_0 1 rfl ?_
    refine pr_tsI (off := 96) (pc' := 97) tX0_perform_1 (by decide) rfl rfl ?_
    refine pr_aload_n tX0_perform_97 0 rfl ?_
    refine pr_geta (j := a + 3) tX0_perform_98 rfl ha.1 rfl rfl ?_
    refine pr_iload_n tX0_perform_101 2 rfl ?_
    refine pr_dup2 tX0_perform_102 ⟨rfl, rfl⟩ ?_
    refine pr_lal tX0_perform_103 r ha.2.2.2.1 rfl (by omega) (by decide) ?_
    refine pr_aload_n tX0_perform_104 0 rfl ?_
    refine pr_geta (j := a + 3) tX0_perform_105 rfl ha.1 rfl rfl ?_
    refine pr_iload_n tX0_perform_108 3 rfl ?_
    refine pr_lal tX0_perform_109 s ha.2.2.2.1 rfl (by omega) (by decide) ?_
    refine pr_lsub (v := ((σ.2 (a + 3) r) - (σ.2 (a + 3) s))) tX0_perform_110 (rfl) ?_
    refine pr_las tX0_perform_111 r ha.2.2.2.1 rfl (by omega) (by decide) ?_
    obtain ⟨σ1, eσ1⟩ : ∃ z : pST, z = (σ.1, pm_uj σ.2 (a + 3) r ((σ.2 (a + 3) r) - (σ.2 (a + 3) s))) := ⟨_, rfl⟩
    rw [← eσ1]
    refine pr_goto (pc' := 192) tX0_perform_112 rfl ?_
    refine pr_ret tX0_perform_192 rfl ?_
    rw [eσ1]
    try rfl
  obtain ⟨x, h1, h2⟩ := key
  rw [h1, h2]

set_option maxRecDepth 100000 in
theorem ev_X0_perform_5 (σ : pST) {a : Nat} (ha : isA a) {r s : Nat} (hr : r < 4) (hs : s < 4) (v : Int64) : kX0_perform σ [.inr (.inr a), .inl (nI 5), .inl (nI r), .inl (nI s), .inr (.inl v)] = some (((σ.1, pm_uj (σ.2) (a + 3) r (σ.2 (a + 3) r * σ.2 (a + 3) s)), none)) := by
  have key : ∃ x, kX0_perform σ [.inr (.inr a), .inl (nI 5), .inl (nI r), .inl (nI s), .inr (.inl v)] = some x ∧ x = ((σ.1, pm_uj (σ.2) (a + 3) r (σ.2 (a + 3) r * σ.2 (a + 3) s)), none) := by
    refine pR_met (post := fun x => x = ((σ.1, pm_uj (σ.2) (a + 3) r (σ.2 (a + 3) r * σ.2 (a + 3) s)), none)) ha.1 (Nat.le_of_ble_eq_true rfl) ?_
    show pR _ _ _ _ _ _ _ _ 0 [(0, .inr (.inr a)), (1, .inl (nI 5)), (2, .inl (nI r)), (3, .inl (nI s)), (4, .inr (.inl v))] [] σ
    refine pr_iload_n tX0_perform_0 1 rfl ?_
    refine pr_tsI (off := 114) (pc' := 115) tX0_perform_1 (by decide) rfl rfl ?_
    refine pr_aload_n tX0_perform_115 0 rfl ?_
    refine pr_geta (j := a + 3) tX0_perform_116 rfl ha.1 rfl rfl ?_
    refine pr_iload_n tX0_perform_119 2 rfl ?_
    refine pr_dup2 tX0_perform_120 ⟨rfl, rfl⟩ ?_
    refine pr_lal tX0_perform_121 r ha.2.2.2.1 rfl (by omega) (by decide) ?_
    refine pr_aload_n tX0_perform_122 0 rfl ?_
    refine pr_geta (j := a + 3) tX0_perform_123 rfl ha.1 rfl rfl ?_
    refine pr_iload_n tX0_perform_126 3 rfl ?_
    refine pr_lal tX0_perform_127 s ha.2.2.2.1 rfl (by omega) (by decide) ?_
    refine pr_lmul (v := ((σ.2 (a + 3) r) * (σ.2 (a + 3) s))) tX0_perform_128 (rfl) ?_
    refine pr_las tX0_perform_129 r ha.2.2.2.1 rfl (by omega) (by decide) ?_
    obtain ⟨σ1, eσ1⟩ : ∃ z : pST, z = (σ.1, pm_uj σ.2 (a + 3) r ((σ.2 (a + 3) r) * (σ.2 (a + 3) s))) := ⟨_, rfl⟩
    rw [← eσ1]
    refine pr_goto (pc' := 192) tX0_perform_130 rfl ?_
    refine pr_ret tX0_perform_192 rfl ?_
    rw [eσ1]
    try rfl
  obtain ⟨x, h1, h2⟩ := key
  rw [h1, h2]

set_option maxRecDepth 100000 in
theorem ev_X0_perform_6 (σ : pST) {a : Nat} (ha : isA a) {r s : Nat} (hr : r < 4) (hs : s < 4) (v : Int64) : kX0_perform σ [.inr (.inr a), .inl (nI 6), .inl (nI r), .inl (nI s), .inr (.inl v)] = some ((if lg_cmp (σ.2 (a + 3) r) (σ.2 (a + 3) s) < 0 then (pm_ui (σ.1) a 10 (σ.1 a 10 + v.toInt32), σ.2) else σ, none)) := by
  have key : ∃ x, kX0_perform σ [.inr (.inr a), .inl (nI 6), .inl (nI r), .inl (nI s), .inr (.inl v)] = some x ∧ x = (if lg_cmp (σ.2 (a + 3) r) (σ.2 (a + 3) s) < 0 then (pm_ui (σ.1) a 10 (σ.1 a 10 + v.toInt32), σ.2) else σ, none) := by
    refine pR_met (post := fun x => x = (if lg_cmp (σ.2 (a + 3) r) (σ.2 (a + 3) s) < 0 then (pm_ui (σ.1) a 10 (σ.1 a 10 + v.toInt32), σ.2) else σ, none)) ha.1 (Nat.le_of_ble_eq_true rfl) ?_
    show pR _ _ _ _ _ _ _ _ 0 [(0, .inr (.inr a)), (1, .inl (nI 6)), (2, .inl (nI r)), (3, .inl (nI s)), (4, .inr (.inl v))] [] σ
    refine pr_iload_n tX0_perform_0 1 rfl ?_
    refine pr_tsI (off := 132) (pc' := 133) tX0_perform_1 (by decide) rfl rfl ?_
    refine pr_aload_n tX0_perform_133 0 rfl ?_
    refine pr_geta (j := a + 3) tX0_perform_134 rfl ha.1 rfl rfl ?_
    refine pr_iload_n tX0_perform_137 2 rfl ?_
    refine pr_lal tX0_perform_138 r ha.2.2.2.1 rfl (by omega) (by decide) ?_
    refine pr_aload_n tX0_perform_139 0 rfl ?_
    refine pr_geta (j := a + 3) tX0_perform_140 rfl ha.1 rfl rfl ?_
    refine pr_iload_n tX0_perform_143 3 rfl ?_
    refine pr_lal tX0_perform_144 s ha.2.2.2.1 rfl (by omega) (by decide) ?_
    refine pr_lcmp tX0_perform_145 ?_
    refine pr_if_ge (pc' := 192) tX0_perform_146 rfl (fun hc146 => ?_) (fun hc146 => ?_)
    · skip
      refine pr_ret tX0_perform_192 rfl ?_
      rw [if_neg (by grind)]
    · skip
      refine pr_aload_n tX0_perform_149 0 rfl ?_
      refine pr_dup tX0_perform_150 rfl ?_
      refine pr_get0 tX0_perform_151 rfl ha.1 rfl ?_
      refine pr_lload tX0_perform_154 4 rfl ?_
      refine pr_l2i (v := v.toInt32) tX0_perform_156 (rfl) ?_
      refine pr_iadd (v := ((σ.1 a 10) + v.toInt32)) tX0_perform_157 (rfl) ?_
      refine pr_put0 tX0_perform_158 rfl ha.1 rfl ?_
      obtain ⟨σ1, eσ1⟩ : ∃ z : pST, z = (pm_ui σ.1 a 10 ((σ.1 a 10) + v.toInt32), σ.2) := ⟨_, rfl⟩
      rw [← eσ1]
      refine pr_goto (pc' := 192) tX0_perform_161 rfl ?_
      refine pr_ret tX0_perform_192 rfl ?_
      rw [if_pos (by grind), eσ1]
  obtain ⟨x, h1, h2⟩ := key
  rw [h1, h2]

set_option maxRecDepth 100000 in
theorem ev_X0_perform_7 (σ : pST) {a : Nat} (ha : isA a) {r s : Nat} (hr : r < 4) (hs : s < 4) (v : Int64) {ec : Nat} (he : σ.1 a 6 = nI ec) (hl : ec < 12) : kX0_perform σ [.inr (.inr a), .inl (nI 7), .inl (nI r), .inl (nI s), .inr (.inl v)] = some (((pm_ui (σ.1) a 6 (nI (ec + 1)), pm_uj (σ.2) (a + 2) ec (σ.2 (a + 3) r)), none)) := by
  have key : ∃ x, kX0_perform σ [.inr (.inr a), .inl (nI 7), .inl (nI r), .inl (nI s), .inr (.inl v)] = some x ∧ x = ((pm_ui (σ.1) a 6 (nI (ec + 1)), pm_uj (σ.2) (a + 2) ec (σ.2 (a + 3) r)), none) := by
    refine pR_met (post := fun x => x = ((pm_ui (σ.1) a 6 (nI (ec + 1)), pm_uj (σ.2) (a + 2) ec (σ.2 (a + 3) r)), none)) ha.1 (Nat.le_of_ble_eq_true rfl) ?_
    show pR _ _ _ _ _ _ _ _ 0 [(0, .inr (.inr a)), (1, .inl (nI 7)), (2, .inl (nI r)), (3, .inl (nI s)), (4, .inr (.inl v))] [] σ
    refine pr_iload_n tX0_perform_0 1 rfl ?_
    refine pr_tsI (off := 163) (pc' := 164) tX0_perform_1 (by decide) rfl rfl ?_
    refine pr_aload_n tX0_perform_164 0 rfl ?_
    refine pr_aload_n tX0_perform_165 0 rfl ?_
    refine pr_geta (j := a + 3) tX0_perform_166 rfl ha.1 rfl rfl ?_
    refine pr_iload_n tX0_perform_169 2 rfl ?_
    refine pr_lal tX0_perform_170 r ha.2.2.2.1 rfl (by omega) (by decide) ?_
    refine pr_callV tX0_perform_171 rfl ⟨Nat.le_of_ble_eq_true rfl, Nat.le_of_ble_eq_true rfl, rfl⟩ (ev_X0_raise σ ha he hl _) ?_
    refine pR_eq (st' := []) rfl rfl ?_
    refine pr_goto (pc' := 192) tX0_perform_174 rfl ?_
    refine pr_ret tX0_perform_192 rfl ?_
    rfl
  obtain ⟨x, h1, h2⟩ := key
  rw [h1, h2]

set_option maxRecDepth 100000 in
theorem ev_X0_perform_8 (σ : pST) {a : Nat} (ha : isA a) {r s : Nat} (hr : r < 4) (hs : s < 4) (v : Int64) : kX0_perform σ [.inr (.inr a), .inl (nI 8), .inl (nI r), .inl (nI s), .inr (.inl v)] = some ((if lg_cmp (σ.2 (a + 3) r) 0 < 0 then (pm_ui (pm_ui (pm_ui (σ.1) a 4 1) a 12 0) a 6 0, σ.2) else σ, none)) := by
  have key : ∃ x, kX0_perform σ [.inr (.inr a), .inl (nI 8), .inl (nI r), .inl (nI s), .inr (.inl v)] = some x ∧ x = (if lg_cmp (σ.2 (a + 3) r) 0 < 0 then (pm_ui (pm_ui (pm_ui (σ.1) a 4 1) a 12 0) a 6 0, σ.2) else σ, none) := by
    refine pR_met (post := fun x => x = (if lg_cmp (σ.2 (a + 3) r) 0 < 0 then (pm_ui (pm_ui (pm_ui (σ.1) a 4 1) a 12 0) a 6 0, σ.2) else σ, none)) ha.1 (Nat.le_of_ble_eq_true rfl) ?_
    show pR _ _ _ _ _ _ _ _ 0 [(0, .inr (.inr a)), (1, .inl (nI 8)), (2, .inl (nI r)), (3, .inl (nI s)), (4, .inr (.inl v))] [] σ
    refine pr_iload_n tX0_perform_0 1 rfl ?_
    refine pr_tsO (pc' := 177) tX0_perform_1 (by decide) rfl ?_
    refine pr_aload_n tX0_perform_177 0 rfl ?_
    refine pr_geta (j := a + 3) tX0_perform_178 rfl ha.1 rfl rfl ?_
    refine pr_iload_n tX0_perform_181 2 rfl ?_
    refine pr_lal tX0_perform_182 r ha.2.2.2.1 rfl (by omega) (by decide) ?_
    refine pr_lconst (v := 0) tX0_perform_183 rfl ?_
    refine pr_lcmp tX0_perform_184 ?_
    refine pr_if_ge (pc' := 192) tX0_perform_185 rfl (fun hc185 => ?_) (fun hc185 => ?_)
    · skip
      refine pr_ret tX0_perform_192 rfl ?_
      rw [if_neg (by grind)]
    · skip
      refine pr_aload_n tX0_perform_188 0 rfl ?_
      refine pr_callV tX0_perform_189 rfl ⟨Nat.le_of_ble_eq_true rfl, Nat.le_of_ble_eq_true rfl, rfl⟩ (ev_X0_fail σ ha) ?_
      refine pR_eq (st' := []) rfl rfl ?_
      refine pr_ret tX0_perform_192 rfl ?_
      rw [if_pos (by grind)]
  obtain ⟨x, h1, h2⟩ := key
  rw [h1, h2]

set_option maxRecDepth 100000 in
theorem ev_X0_read_w (σ : pST) {a : Nat} (ha : isA a) {t r k : Nat} (ht : isT t) (hr : r < 4) (hk : k < 32) (hb : ¬ σ.1 a 12 &&& (nI 1 <<< (nI k &&& 31)) = 0) : kX0_read σ [.inr (.inr a), .inl (nI r), .inl (nI k), .inr (.inr t)] = some (((σ.1, pm_uj (σ.2) (a + 3) r (σ.2 (a + 1) k)), some (.inl (-1)))) := by
  have key : ∃ x, kX0_read σ [.inr (.inr a), .inl (nI r), .inl (nI k), .inr (.inr t)] = some x ∧ x = ((σ.1, pm_uj (σ.2) (a + 3) r (σ.2 (a + 1) k)), some (.inl (-1))) := by
    refine pR_met (post := fun x => x = ((σ.1, pm_uj (σ.2) (a + 3) r (σ.2 (a + 1) k)), some (.inl (-1)))) ha.1 (Nat.le_of_ble_eq_true rfl) ?_
    show pR _ _ _ _ _ _ _ _ 0 [(0, .inr (.inr a)), (1, .inl (nI r)), (2, .inl (nI k)), (3, .inr (.inr t))] [] σ
    refine pr_aload_n tX0_read_0 0 rfl ?_
    refine pr_iload_n tX0_read_1 2 rfl ?_
    refine pr_callV tX0_read_2 rfl ⟨Nat.le_of_ble_eq_true rfl, Nat.le_of_ble_eq_true rfl, rfl⟩ (ev_X0_hasWritten σ ha (nI k)) ?_
    refine pR_eq (st' := [.inl (if σ.1 a 12 &&& (nI 1 <<< (nI k &&& 31)) = 0 then 0 else 1)]) rfl rfl ?_
    refine pr_if_eq (pc' := 22) tX0_read_5 rfl (fun hc5 => ?_) (fun hc5 => ?_)
    · skip
      exact absurd hc5 (by rw [if_neg hb]; decide)
    · skip
      skip
      refine pr_aload_n tX0_read_8 0 rfl ?_
      refine pr_geta (j := a + 3) tX0_read_9 rfl ha.1 rfl rfl ?_
      refine pr_iload_n tX0_read_12 1 rfl ?_
      refine pr_aload_n tX0_read_13 0 rfl ?_
      refine pr_geta (j := a + 1) tX0_read_14 rfl ha.1 rfl rfl ?_
      refine pr_iload_n tX0_read_17 2 rfl ?_
      refine pr_lal tX0_read_18 k ha.2.1 rfl (by omega) (by decide) ?_
      refine pr_las tX0_read_19 r ha.2.2.2.1 rfl (by omega) (by decide) ?_
      obtain ⟨σ1, eσ1⟩ : ∃ z : pST, z = (σ.1, pm_uj σ.2 (a + 3) r (σ.2 (a + 1) k)) := ⟨_, rfl⟩
      rw [← eσ1]
      refine pr_iconst (v := -1) tX0_read_20 rfl ?_
      refine pr_iret tX0_read_21 rfl ?_
      rw [eσ1]
      try rfl
  obtain ⟨x, h1, h2⟩ := key
  rw [h1, h2]

set_option maxRecDepth 100000 in
theorem ev_X0_read_k (σ : pST) {a : Nat} (ha : isA a) {t r k : Nat} (ht : isT t) (hr : r < 4) (hk : k < 32) (hb : σ.1 a 12 &&& (nI 1 <<< (nI k &&& 31)) = 0) (hm : ¬ σ.1 a 11 &&& (nI 1 <<< (nI k &&& 31)) = 0) : kX0_read σ [.inr (.inr a), .inl (nI r), .inl (nI k), .inr (.inr t)] = some (((σ.1, pm_uj (σ.2) (a + 3) r (σ.2 (a + 4) k)), some (.inl (-1)))) := by
  have key : ∃ x, kX0_read σ [.inr (.inr a), .inl (nI r), .inl (nI k), .inr (.inr t)] = some x ∧ x = ((σ.1, pm_uj (σ.2) (a + 3) r (σ.2 (a + 4) k)), some (.inl (-1))) := by
    refine pR_met (post := fun x => x = ((σ.1, pm_uj (σ.2) (a + 3) r (σ.2 (a + 4) k)), some (.inl (-1)))) ha.1 (Nat.le_of_ble_eq_true rfl) ?_
    show pR _ _ _ _ _ _ _ _ 0 [(0, .inr (.inr a)), (1, .inl (nI r)), (2, .inl (nI k)), (3, .inr (.inr t))] [] σ
    refine pr_aload_n tX0_read_0 0 rfl ?_
    refine pr_iload_n tX0_read_1 2 rfl ?_
    refine pr_callV tX0_read_2 rfl ⟨Nat.le_of_ble_eq_true rfl, Nat.le_of_ble_eq_true rfl, rfl⟩ (ev_X0_hasWritten σ ha (nI k)) ?_
    refine pR_eq (st' := [.inl (if σ.1 a 12 &&& (nI 1 <<< (nI k &&& 31)) = 0 then 0 else 1)]) rfl rfl ?_
    refine pr_if_eq (pc' := 22) tX0_read_5 rfl (fun hc5 => ?_) (fun hc5 => ?_)
    · skip
      skip
      refine pr_aload_n tX0_read_22 0 rfl ?_
      refine pr_get0 tX0_read_23 rfl ha.1 rfl ?_
      refine pr_iconst (v := nI 1) tX0_read_26 rfl ?_
      refine pr_iload_n tX0_read_27 2 rfl ?_
      refine pr_ishl (v := ((nI 1) <<< ((nI k) &&& 31))) tX0_read_28 (rfl) ?_
      refine pr_iand (v := ((σ.1 a 11) &&& ((nI 1) <<< ((nI k) &&& 31)))) tX0_read_29 (rfl) ?_
      refine pr_if_ne (pc' := 78) tX0_read_30 rfl (fun hc30 => ?_) (fun hc30 => ?_)
      · skip
        refine pr_aload_n tX0_read_78 0 rfl ?_
        refine pr_geta (j := a + 3) tX0_read_79 rfl ha.1 rfl rfl ?_
        refine pr_iload_n tX0_read_82 1 rfl ?_
        refine pr_aload_n tX0_read_83 0 rfl ?_
        refine pr_geta (j := a + 4) tX0_read_84 rfl ha.1 rfl rfl ?_
        refine pr_iload_n tX0_read_87 2 rfl ?_
        refine pr_lal tX0_read_88 k ha.2.2.2.2.1 rfl (by omega) (by decide) ?_
        refine pr_las tX0_read_89 r ha.2.2.2.1 rfl (by omega) (by decide) ?_
        obtain ⟨σ1, eσ1⟩ : ∃ z : pST, z = (σ.1, pm_uj σ.2 (a + 3) r (σ.2 (a + 4) k)) := ⟨_, rfl⟩
        rw [← eσ1]
        refine pr_iconst (v := -1) tX0_read_90 rfl ?_
        refine pr_iret tX0_read_91 rfl ?_
        rw [eσ1]
        try rfl
      · skip
        exact absurd hm hc30
    · skip
      exact absurd (if_pos hb) hc5
  obtain ⟨x, h1, h2⟩ := key
  rw [h1, h2]

set_option maxRecDepth 100000 in
theorem ev_X0_read_p (σ : pST) {a : Nat} (ha : isA a) {t r k : Nat} (ht : isT t) (hr : r < 4) (hk : k < 32) (hb : σ.1 a 12 &&& (nI 1 <<< (nI k &&& 31)) = 0) (hm : σ.1 a 11 &&& (nI 1 <<< (nI k &&& 31)) = 0) {c : Nat} (hs : σ.1 a 0 = nI c) (hc : c ≤ 16) {j : Nat} (hw : wbN (σ.1 (t + 2)) k c = nI j) (hj : j < 16) (hp : σ.1 (t + 2) (k * 16 + j) = nI 2) : kX0_read σ [.inr (.inr a), .inl (nI r), .inl (nI k), .inr (.inr t)] = some ((σ, some (.inl (nI j)))) := by
  have key : ∃ x, kX0_read σ [.inr (.inr a), .inl (nI r), .inl (nI k), .inr (.inr t)] = some x ∧ x = (σ, some (.inl (nI j))) := by
    refine pR_met (post := fun x => x = (σ, some (.inl (nI j)))) ha.1 (Nat.le_of_ble_eq_true rfl) ?_
    show pR _ _ _ _ _ _ _ _ 0 [(0, .inr (.inr a)), (1, .inl (nI r)), (2, .inl (nI k)), (3, .inr (.inr t))] [] σ
    refine pr_aload_n tX0_read_0 0 rfl ?_
    refine pr_iload_n tX0_read_1 2 rfl ?_
    refine pr_callV tX0_read_2 rfl ⟨Nat.le_of_ble_eq_true rfl, Nat.le_of_ble_eq_true rfl, rfl⟩ (ev_X0_hasWritten σ ha (nI k)) ?_
    refine pR_eq (st' := [.inl (if σ.1 a 12 &&& (nI 1 <<< (nI k &&& 31)) = 0 then 0 else 1)]) rfl rfl ?_
    refine pr_if_eq (pc' := 22) tX0_read_5 rfl (fun hc5 => ?_) (fun hc5 => ?_)
    · skip
      skip
      refine pr_aload_n tX0_read_22 0 rfl ?_
      refine pr_get0 tX0_read_23 rfl ha.1 rfl ?_
      refine pr_iconst (v := nI 1) tX0_read_26 rfl ?_
      refine pr_iload_n tX0_read_27 2 rfl ?_
      refine pr_ishl (v := ((nI 1) <<< ((nI k) &&& 31))) tX0_read_28 (rfl) ?_
      refine pr_iand (v := ((σ.1 a 11) &&& ((nI 1) <<< ((nI k) &&& 31)))) tX0_read_29 (rfl) ?_
      refine pr_if_ne (pc' := 78) tX0_read_30 rfl (fun hc30 => ?_) (fun hc30 => ?_)
      · skip
        exact absurd hm hc30
      · skip
        refine pr_aload_n tX0_read_33 3 rfl ?_
        refine pr_iload_n tX0_read_34 2 rfl ?_
        refine pr_aload_n tX0_read_35 0 rfl ?_
        refine pr_get3 tX0_read_36 rfl ha.1 rfl ?_
        refine pR_topi (y := (nI c)) (by simp [pm_ui, pm_uj, upd, vp_updL, hs]) ?_
        refine pr_callV tX0_read_39 rfl ⟨Nat.le_of_ble_eq_true rfl, Nat.le_of_ble_eq_true rfl, rfl⟩ ((ev_X5_writerBelow σ ht hk hc).trans (by rw [hw])) ?_
        refine pR_eq (st' := [.inl (nI j)]) rfl rfl ?_
        refine pr_istore (L' := [(4, .inl (nI j)), (0, .inr (.inr a)), (1, .inl (nI r)), (2, .inl (nI k)), (3, .inr (.inr t))]) tX0_read_42 (by decide) rfl ?_
        refine pr_aload_n tX0_read_44 4 rfl ?_
        refine pr_iload_n tX0_read_45 3 rfl ?_
        refine pr_iload tX0_read_46 0 rfl ?_
        refine pr_callV tX0_read_48 rfl ⟨Nat.le_of_ble_eq_true rfl, Nat.le_of_ble_eq_true rfl, rfl⟩ ((ev_X5_isPerhaps_s σ ht hk hj).trans (by rw [if_pos hp])) ?_
        refine pR_eq (st' := [.inl 1]) rfl rfl ?_
        refine pr_if_eq (pc' := 57) tX0_read_51 rfl (fun hc51 => ?_) (fun hc51 => ?_)
        · skip
          exact absurd hc51 (by decide)
        · skip
          skip
          refine pr_iload tX0_read_54 0 rfl ?_
          refine pr_iret tX0_read_56 rfl ?_
          rfl
    · skip
      exact absurd (if_pos hb) hc5
  obtain ⟨x, h1, h2⟩ := key
  rw [h1, h2]

set_option maxRecDepth 100000 in
theorem ev_X0_read_s (σ : pST) {a : Nat} (ha : isA a) {t r k : Nat} (ht : isT t) (hr : r < 4) (hk : k < 32) (hb : σ.1 a 12 &&& (nI 1 <<< (nI k &&& 31)) = 0) (hm : σ.1 a 11 &&& (nI 1 <<< (nI k &&& 31)) = 0) {c : Nat} (hs : σ.1 a 0 = nI c) (hc : c ≤ 16) {j : Nat} (hw : wbN (σ.1 (t + 2)) k c = nI j) (hj : j < 16) (hp : ¬ σ.1 (t + 2) (k * 16 + j) = nI 2) {kp : Nat} (hkp : σ.1 a 5 = nI kp) (hl : kp < 12) : kX0_read σ [.inr (.inr a), .inl (nI r), .inl (nI k), .inr (.inr t)] = some ((((pm_ui (pm_ui (pm_ui (pm_ui (pm_ui (σ.1) (a + 5) kp (nI k)) (a + 6) kp (nI j)) (a + 7) kp (σ.1 (t + 3) (k * 16 + j))) a 11 (σ.1 a 11 ||| (nI 1 <<< (nI k &&& 31)))) a 5 (nI (kp + 1)), pm_uj (σ.2) (a + 4) k (σ.2 (t + 4) (k * 16 + j))).1, pm_uj (pm_ui (pm_ui (pm_ui (pm_ui (pm_ui (σ.1) (a + 5) kp (nI k)) (a + 6) kp (nI j)) (a + 7) kp (σ.1 (t + 3) (k * 16 + j))) a 11 (σ.1 a 11 ||| (nI 1 <<< (nI k &&& 31)))) a 5 (nI (kp + 1)), pm_uj (σ.2) (a + 4) k (σ.2 (t + 4) (k * 16 + j))).2 (a + 3) r (σ.2 (t + 4) (k * 16 + j))), some (.inl (-1)))) := by
  have key : ∃ x, kX0_read σ [.inr (.inr a), .inl (nI r), .inl (nI k), .inr (.inr t)] = some x ∧ x = (((pm_ui (pm_ui (pm_ui (pm_ui (pm_ui (σ.1) (a + 5) kp (nI k)) (a + 6) kp (nI j)) (a + 7) kp (σ.1 (t + 3) (k * 16 + j))) a 11 (σ.1 a 11 ||| (nI 1 <<< (nI k &&& 31)))) a 5 (nI (kp + 1)), pm_uj (σ.2) (a + 4) k (σ.2 (t + 4) (k * 16 + j))).1, pm_uj (pm_ui (pm_ui (pm_ui (pm_ui (pm_ui (σ.1) (a + 5) kp (nI k)) (a + 6) kp (nI j)) (a + 7) kp (σ.1 (t + 3) (k * 16 + j))) a 11 (σ.1 a 11 ||| (nI 1 <<< (nI k &&& 31)))) a 5 (nI (kp + 1)), pm_uj (σ.2) (a + 4) k (σ.2 (t + 4) (k * 16 + j))).2 (a + 3) r (σ.2 (t + 4) (k * 16 + j))), some (.inl (-1))) := by
    refine pR_met (post := fun x => x = (((pm_ui (pm_ui (pm_ui (pm_ui (pm_ui (σ.1) (a + 5) kp (nI k)) (a + 6) kp (nI j)) (a + 7) kp (σ.1 (t + 3) (k * 16 + j))) a 11 (σ.1 a 11 ||| (nI 1 <<< (nI k &&& 31)))) a 5 (nI (kp + 1)), pm_uj (σ.2) (a + 4) k (σ.2 (t + 4) (k * 16 + j))).1, pm_uj (pm_ui (pm_ui (pm_ui (pm_ui (pm_ui (σ.1) (a + 5) kp (nI k)) (a + 6) kp (nI j)) (a + 7) kp (σ.1 (t + 3) (k * 16 + j))) a 11 (σ.1 a 11 ||| (nI 1 <<< (nI k &&& 31)))) a 5 (nI (kp + 1)), pm_uj (σ.2) (a + 4) k (σ.2 (t + 4) (k * 16 + j))).2 (a + 3) r (σ.2 (t + 4) (k * 16 + j))), some (.inl (-1)))) ha.1 (Nat.le_of_ble_eq_true rfl) ?_
    show pR _ _ _ _ _ _ _ _ 0 [(0, .inr (.inr a)), (1, .inl (nI r)), (2, .inl (nI k)), (3, .inr (.inr t))] [] σ
    refine pr_aload_n tX0_read_0 0 rfl ?_
    refine pr_iload_n tX0_read_1 2 rfl ?_
    refine pr_callV tX0_read_2 rfl ⟨Nat.le_of_ble_eq_true rfl, Nat.le_of_ble_eq_true rfl, rfl⟩ (ev_X0_hasWritten σ ha (nI k)) ?_
    refine pR_eq (st' := [.inl (if σ.1 a 12 &&& (nI 1 <<< (nI k &&& 31)) = 0 then 0 else 1)]) rfl rfl ?_
    refine pr_if_eq (pc' := 22) tX0_read_5 rfl (fun hc5 => ?_) (fun hc5 => ?_)
    · skip
      skip
      refine pr_aload_n tX0_read_22 0 rfl ?_
      refine pr_get0 tX0_read_23 rfl ha.1 rfl ?_
      refine pr_iconst (v := nI 1) tX0_read_26 rfl ?_
      refine pr_iload_n tX0_read_27 2 rfl ?_
      refine pr_ishl (v := ((nI 1) <<< ((nI k) &&& 31))) tX0_read_28 (rfl) ?_
      refine pr_iand (v := ((σ.1 a 11) &&& ((nI 1) <<< ((nI k) &&& 31)))) tX0_read_29 (rfl) ?_
      refine pr_if_ne (pc' := 78) tX0_read_30 rfl (fun hc30 => ?_) (fun hc30 => ?_)
      · skip
        exact absurd hm hc30
      · skip
        refine pr_aload_n tX0_read_33 3 rfl ?_
        refine pr_iload_n tX0_read_34 2 rfl ?_
        refine pr_aload_n tX0_read_35 0 rfl ?_
        refine pr_get3 tX0_read_36 rfl ha.1 rfl ?_
        refine pR_topi (y := (nI c)) (by simp [pm_ui, pm_uj, upd, vp_updL, hs]) ?_
        refine pr_callV tX0_read_39 rfl ⟨Nat.le_of_ble_eq_true rfl, Nat.le_of_ble_eq_true rfl, rfl⟩ ((ev_X5_writerBelow σ ht hk hc).trans (by rw [hw])) ?_
        refine pR_eq (st' := [.inl (nI j)]) rfl rfl ?_
        refine pr_istore (L' := [(4, .inl (nI j)), (0, .inr (.inr a)), (1, .inl (nI r)), (2, .inl (nI k)), (3, .inr (.inr t))]) tX0_read_42 (by decide) rfl ?_
        refine pr_aload_n tX0_read_44 4 rfl ?_
        refine pr_iload_n tX0_read_45 3 rfl ?_
        refine pr_iload tX0_read_46 0 rfl ?_
        refine pr_callV tX0_read_48 rfl ⟨Nat.le_of_ble_eq_true rfl, Nat.le_of_ble_eq_true rfl, rfl⟩ ((ev_X5_isPerhaps_s σ ht hk hj).trans (by rw [if_neg hp])) ?_
        refine pR_eq (st' := [.inl 0]) rfl rfl ?_
        refine pr_if_eq (pc' := 57) tX0_read_51 rfl (fun hc51 => ?_) (fun hc51 => ?_)
        · skip
          skip
          refine pr_aload_n tX0_read_57 1 rfl ?_
          refine pr_iload_n tX0_read_58 3 rfl ?_
          refine pr_iload tX0_read_59 0 rfl ?_
          refine pr_aload_n tX0_read_61 4 rfl ?_
          refine pr_iload_n tX0_read_62 3 rfl ?_
          refine pr_iload tX0_read_63 0 rfl ?_
          refine pr_callV tX0_read_65 rfl ⟨Nat.le_of_ble_eq_true rfl, Nat.le_of_ble_eq_true rfl, rfl⟩ (ev_X5_numberOf_s σ ht hk hj) ?_
          refine pR_eq (st' := [.inl (σ.1 (t + 3) (k * 16 + j)), .inl (nI j), .inl (nI k), .inr (.inr a)]) rfl rfl ?_
          refine pr_aload_n tX0_read_68 4 rfl ?_
          refine pr_iload_n tX0_read_69 3 rfl ?_
          refine pr_iload tX0_read_70 0 rfl ?_
          refine pr_callV tX0_read_72 rfl ⟨Nat.le_of_ble_eq_true rfl, Nat.le_of_ble_eq_true rfl, rfl⟩ (ev_X5_valueOf_s σ ht hk hj) ?_
          refine pR_eq (st' := [.inr (.inl (σ.2 (t + 4) (k * 16 + j))), .inl (σ.1 (t + 3) (k * 16 + j)), .inl (nI j), .inl (nI k), .inr (.inr a)]) rfl rfl ?_
          refine pr_callV tX0_read_75 rfl ⟨Nat.le_of_ble_eq_true rfl, Nat.le_of_ble_eq_true rfl, rfl⟩ (ev_X0_keep σ ha hk hkp hl _ _ _) ?_
          refine pR_eq (st' := []) rfl rfl ?_
          refine pr_aload_n tX0_read_78 1 rfl ?_
          refine pr_geta (j := a + 3) tX0_read_79 rfl ha.1 rfl rfl ?_
          refine pr_iload_n tX0_read_82 2 rfl ?_
          refine pr_aload_n tX0_read_83 1 rfl ?_
          refine pr_geta (j := a + 4) tX0_read_84 rfl ha.1 rfl rfl ?_
          refine pr_iload_n tX0_read_87 3 rfl ?_
          refine pr_lal tX0_read_88 k ha.2.2.2.2.1 rfl (by omega) (by decide) ?_
          refine pR_topl (y := σ.2 (t + 4) (k * 16 + j)) (by simp [pm_ui, pm_uj, upd, vp_updL]) ?_
          refine pr_las tX0_read_89 r ha.2.2.2.1 rfl (by omega) (by decide) ?_
          obtain ⟨σ1, eσ1⟩ : ∃ z : pST, z = ((pm_ui (pm_ui (pm_ui (pm_ui (pm_ui (σ.1) (a + 5) kp (nI k)) (a + 6) kp (nI j)) (a + 7) kp (σ.1 (t + 3) (k * 16 + j))) a 11 (σ.1 a 11 ||| (nI 1 <<< (nI k &&& 31)))) a 5 (nI (kp + 1)), pm_uj (σ.2) (a + 4) k (σ.2 (t + 4) (k * 16 + j))).1, pm_uj (pm_ui (pm_ui (pm_ui (pm_ui (pm_ui (σ.1) (a + 5) kp (nI k)) (a + 6) kp (nI j)) (a + 7) kp (σ.1 (t + 3) (k * 16 + j))) a 11 (σ.1 a 11 ||| (nI 1 <<< (nI k &&& 31)))) a 5 (nI (kp + 1)), pm_uj (σ.2) (a + 4) k (σ.2 (t + 4) (k * 16 + j))).2 (a + 3) r (σ.2 (t + 4) (k * 16 + j))) := ⟨_, rfl⟩
          rw [← eσ1]
          refine pr_iconst (v := -1) tX0_read_90 rfl ?_
          refine pr_iret tX0_read_91 rfl ?_
          rw [eσ1]
          try rfl
        · skip
          exact absurd (by decide) hc51
    · skip
      exact absurd (if_pos hb) hc5
  obtain ⟨x, h1, h2⟩ := key
  rw [h1, h2]

set_option maxRecDepth 100000 in
theorem ev_X0_read_n (σ : pST) {a : Nat} (ha : isA a) {t r k : Nat} (ht : isT t) (hr : r < 4) (hk : k < 32) (hb : σ.1 a 12 &&& (nI 1 <<< (nI k &&& 31)) = 0) (hm : σ.1 a 11 &&& (nI 1 <<< (nI k &&& 31)) = 0) {c : Nat} (hs : σ.1 a 0 = nI c) (hc : c ≤ 16) (hw : wbN (σ.1 (t + 2)) k c = -1) {kp : Nat} (hkp : σ.1 a 5 = nI kp) (hl : kp < 12) : kX0_read σ [.inr (.inr a), .inl (nI r), .inl (nI k), .inr (.inr t)] = some ((((pm_ui (pm_ui (pm_ui (pm_ui (pm_ui (σ.1) (a + 5) kp (nI k)) (a + 6) kp (-1)) (a + 7) kp (-1)) a 11 (σ.1 a 11 ||| (nI 1 <<< (nI k &&& 31)))) a 5 (nI (kp + 1)), pm_uj (σ.2) (a + 4) k (σ.2 (t + 1) k)).1, pm_uj (pm_ui (pm_ui (pm_ui (pm_ui (pm_ui (σ.1) (a + 5) kp (nI k)) (a + 6) kp (-1)) (a + 7) kp (-1)) a 11 (σ.1 a 11 ||| (nI 1 <<< (nI k &&& 31)))) a 5 (nI (kp + 1)), pm_uj (σ.2) (a + 4) k (σ.2 (t + 1) k)).2 (a + 3) r (σ.2 (t + 1) k)), some (.inl (-1)))) := by
  have key : ∃ x, kX0_read σ [.inr (.inr a), .inl (nI r), .inl (nI k), .inr (.inr t)] = some x ∧ x = (((pm_ui (pm_ui (pm_ui (pm_ui (pm_ui (σ.1) (a + 5) kp (nI k)) (a + 6) kp (-1)) (a + 7) kp (-1)) a 11 (σ.1 a 11 ||| (nI 1 <<< (nI k &&& 31)))) a 5 (nI (kp + 1)), pm_uj (σ.2) (a + 4) k (σ.2 (t + 1) k)).1, pm_uj (pm_ui (pm_ui (pm_ui (pm_ui (pm_ui (σ.1) (a + 5) kp (nI k)) (a + 6) kp (-1)) (a + 7) kp (-1)) a 11 (σ.1 a 11 ||| (nI 1 <<< (nI k &&& 31)))) a 5 (nI (kp + 1)), pm_uj (σ.2) (a + 4) k (σ.2 (t + 1) k)).2 (a + 3) r (σ.2 (t + 1) k)), some (.inl (-1))) := by
    refine pR_met (post := fun x => x = (((pm_ui (pm_ui (pm_ui (pm_ui (pm_ui (σ.1) (a + 5) kp (nI k)) (a + 6) kp (-1)) (a + 7) kp (-1)) a 11 (σ.1 a 11 ||| (nI 1 <<< (nI k &&& 31)))) a 5 (nI (kp + 1)), pm_uj (σ.2) (a + 4) k (σ.2 (t + 1) k)).1, pm_uj (pm_ui (pm_ui (pm_ui (pm_ui (pm_ui (σ.1) (a + 5) kp (nI k)) (a + 6) kp (-1)) (a + 7) kp (-1)) a 11 (σ.1 a 11 ||| (nI 1 <<< (nI k &&& 31)))) a 5 (nI (kp + 1)), pm_uj (σ.2) (a + 4) k (σ.2 (t + 1) k)).2 (a + 3) r (σ.2 (t + 1) k)), some (.inl (-1)))) ha.1 (Nat.le_of_ble_eq_true rfl) ?_
    show pR _ _ _ _ _ _ _ _ 0 [(0, .inr (.inr a)), (1, .inl (nI r)), (2, .inl (nI k)), (3, .inr (.inr t))] [] σ
    refine pr_aload_n tX0_read_0 0 rfl ?_
    refine pr_iload_n tX0_read_1 2 rfl ?_
    refine pr_callV tX0_read_2 rfl ⟨Nat.le_of_ble_eq_true rfl, Nat.le_of_ble_eq_true rfl, rfl⟩ (ev_X0_hasWritten σ ha (nI k)) ?_
    refine pR_eq (st' := [.inl (if σ.1 a 12 &&& (nI 1 <<< (nI k &&& 31)) = 0 then 0 else 1)]) rfl rfl ?_
    refine pr_if_eq (pc' := 22) tX0_read_5 rfl (fun hc5 => ?_) (fun hc5 => ?_)
    · skip
      skip
      refine pr_aload_n tX0_read_22 0 rfl ?_
      refine pr_get0 tX0_read_23 rfl ha.1 rfl ?_
      refine pr_iconst (v := nI 1) tX0_read_26 rfl ?_
      refine pr_iload_n tX0_read_27 2 rfl ?_
      refine pr_ishl (v := ((nI 1) <<< ((nI k) &&& 31))) tX0_read_28 (rfl) ?_
      refine pr_iand (v := ((σ.1 a 11) &&& ((nI 1) <<< ((nI k) &&& 31)))) tX0_read_29 (rfl) ?_
      refine pr_if_ne (pc' := 78) tX0_read_30 rfl (fun hc30 => ?_) (fun hc30 => ?_)
      · skip
        exact absurd hm hc30
      · skip
        refine pr_aload_n tX0_read_33 3 rfl ?_
        refine pr_iload_n tX0_read_34 2 rfl ?_
        refine pr_aload_n tX0_read_35 0 rfl ?_
        refine pr_get3 tX0_read_36 rfl ha.1 rfl ?_
        refine pR_topi (y := (nI c)) (by simp [pm_ui, pm_uj, upd, vp_updL, hs]) ?_
        refine pr_callV tX0_read_39 rfl ⟨Nat.le_of_ble_eq_true rfl, Nat.le_of_ble_eq_true rfl, rfl⟩ ((ev_X5_writerBelow σ ht hk hc).trans (by rw [hw])) ?_
        refine pR_eq (st' := [.inl (-1)]) rfl rfl ?_
        refine pr_istore (L' := [(4, .inl (-1)), (0, .inr (.inr a)), (1, .inl (nI r)), (2, .inl (nI k)), (3, .inr (.inr t))]) tX0_read_42 (by decide) rfl ?_
        refine pr_aload_n tX0_read_44 4 rfl ?_
        refine pr_iload_n tX0_read_45 3 rfl ?_
        refine pr_iload tX0_read_46 0 rfl ?_
        refine pr_callV tX0_read_48 rfl ⟨Nat.le_of_ble_eq_true rfl, Nat.le_of_ble_eq_true rfl, rfl⟩ (ev_X5_isPerhaps_n σ ht (nI k)) ?_
        refine pR_eq (st' := [.inl 0]) rfl rfl ?_
        refine pr_if_eq (pc' := 57) tX0_read_51 rfl (fun hc51 => ?_) (fun hc51 => ?_)
        · skip
          skip
          refine pr_aload_n tX0_read_57 1 rfl ?_
          refine pr_iload_n tX0_read_58 3 rfl ?_
          refine pr_iload tX0_read_59 0 rfl ?_
          refine pr_aload_n tX0_read_61 4 rfl ?_
          refine pr_iload_n tX0_read_62 3 rfl ?_
          refine pr_iload tX0_read_63 0 rfl ?_
          refine pr_callV tX0_read_65 rfl ⟨Nat.le_of_ble_eq_true rfl, Nat.le_of_ble_eq_true rfl, rfl⟩ (ev_X5_numberOf_n σ ht (nI k)) ?_
          refine pR_eq (st' := [.inl (-1), .inl (-1), .inl (nI k), .inr (.inr a)]) rfl rfl ?_
          refine pr_aload_n tX0_read_68 4 rfl ?_
          refine pr_iload_n tX0_read_69 3 rfl ?_
          refine pr_iload tX0_read_70 0 rfl ?_
          refine pr_callV tX0_read_72 rfl ⟨Nat.le_of_ble_eq_true rfl, Nat.le_of_ble_eq_true rfl, rfl⟩ (ev_X5_valueOf_n σ ht hk) ?_
          refine pR_eq (st' := [.inr (.inl (σ.2 (t + 1) k)), .inl (-1), .inl (-1), .inl (nI k), .inr (.inr a)]) rfl rfl ?_
          refine pr_callV tX0_read_75 rfl ⟨Nat.le_of_ble_eq_true rfl, Nat.le_of_ble_eq_true rfl, rfl⟩ (ev_X0_keep σ ha hk hkp hl _ _ _) ?_
          refine pR_eq (st' := []) rfl rfl ?_
          refine pr_aload_n tX0_read_78 1 rfl ?_
          refine pr_geta (j := a + 3) tX0_read_79 rfl ha.1 rfl rfl ?_
          refine pr_iload_n tX0_read_82 2 rfl ?_
          refine pr_aload_n tX0_read_83 1 rfl ?_
          refine pr_geta (j := a + 4) tX0_read_84 rfl ha.1 rfl rfl ?_
          refine pr_iload_n tX0_read_87 3 rfl ?_
          refine pr_lal tX0_read_88 k ha.2.2.2.2.1 rfl (by omega) (by decide) ?_
          refine pR_topl (y := σ.2 (t + 1) k) (by simp [pm_ui, pm_uj, upd, vp_updL]) ?_
          refine pr_las tX0_read_89 r ha.2.2.2.1 rfl (by omega) (by decide) ?_
          obtain ⟨σ1, eσ1⟩ : ∃ z : pST, z = ((pm_ui (pm_ui (pm_ui (pm_ui (pm_ui (σ.1) (a + 5) kp (nI k)) (a + 6) kp (-1)) (a + 7) kp (-1)) a 11 (σ.1 a 11 ||| (nI 1 <<< (nI k &&& 31)))) a 5 (nI (kp + 1)), pm_uj (σ.2) (a + 4) k (σ.2 (t + 1) k)).1, pm_uj (pm_ui (pm_ui (pm_ui (pm_ui (pm_ui (σ.1) (a + 5) kp (nI k)) (a + 6) kp (-1)) (a + 7) kp (-1)) a 11 (σ.1 a 11 ||| (nI 1 <<< (nI k &&& 31)))) a 5 (nI (kp + 1)), pm_uj (σ.2) (a + 4) k (σ.2 (t + 1) k)).2 (a + 3) r (σ.2 (t + 1) k)) := ⟨_, rfl⟩
          rw [← eσ1]
          refine pr_iconst (v := -1) tX0_read_90 rfl ?_
          refine pr_iret tX0_read_91 rfl ?_
          rw [eσ1]
          try rfl
        · skip
          exact absurd (by decide) hc51
    · skip
      exact absurd (if_pos hb) hc5
  obtain ⟨x, h1, h2⟩ := key
  rw [h1, h2]
