section
-- ===== PART A: goes FIRST, ahead of the names: the tables' words, and 'selects' of the private methods out of them =====
/-- a private method of a class that the tables say can be made, by its rows of tables_1 -/
def lw_okq (q : MethodName × Nat) : Prop := (q.1.cls ≠ "java/lang/invoke/MethodHandle" ∧ q.1.cls ≠ "java/lang/invoke/VarHandle") ∧ Cond.instantiable q.1.cls q.2 ∈ tables_1 ∧ Cond.privateMethod q.1 ∈ tables_1 ∧ Cond.instanceMethod q.1 ∈ tables_1
theorem lw_p0 : lw_okq (⟨"ParallelUndo$Workers", "isDone", "()Z"⟩, 17) := ⟨⟨by decide +kernel, by decide +kernel⟩, List.mem_of_getElem? (i := 55) (by decide +kernel), List.mem_of_getElem? (i := 342) (by decide +kernel), List.mem_of_getElem? (i := 343) (by decide +kernel)⟩
theorem lw_p1 : lw_okq (⟨"ParallelUndo$Workers", "step", "(ILParallelUndo$Block;)V"⟩, 17) := ⟨⟨by decide +kernel, by decide +kernel⟩, List.mem_of_getElem? (i := 55) (by decide +kernel), List.mem_of_getElem? (i := 347) (by decide +kernel), List.mem_of_getElem? (i := 348) (by decide +kernel)⟩
theorem lw_p2 : lw_okq (⟨"ParallelUndo$Workers", "goOn", "(ILParallelUndo$Block;)V"⟩, 17) := ⟨⟨by decide +kernel, by decide +kernel⟩, List.mem_of_getElem? (i := 55) (by decide +kernel), List.mem_of_getElem? (i := 351) (by decide +kernel), List.mem_of_getElem? (i := 352) (by decide +kernel)⟩
theorem lw_p3 : lw_okq (⟨"ParallelUndo$Attempt", "leafAt", "(IJ)I"⟩, 18) := ⟨⟨by decide +kernel, by decide +kernel⟩, List.mem_of_getElem? (i := 87) (by decide +kernel), List.mem_of_getElem? (i := 367) (by decide +kernel), List.mem_of_getElem? (i := 368) (by decide +kernel)⟩
theorem lw_p4 : lw_okq (⟨"ParallelUndo$Attempt", "read", "(IILParallelUndo$Table;)I"⟩, 18) := ⟨⟨by decide +kernel, by decide +kernel⟩, List.mem_of_getElem? (i := 87) (by decide +kernel), List.mem_of_getElem? (i := 372) (by decide +kernel), List.mem_of_getElem? (i := 373) (by decide +kernel)⟩
theorem lw_p5 : lw_okq (⟨"ParallelUndo$Attempt", "keep", "(IIIJ)V"⟩, 18) := ⟨⟨by decide +kernel, by decide +kernel⟩, List.mem_of_getElem? (i := 87) (by decide +kernel), List.mem_of_getElem? (i := 396) (by decide +kernel), List.mem_of_getElem? (i := 397) (by decide +kernel)⟩
theorem lw_p6 : lw_okq (⟨"ParallelUndo$Attempt", "perform", "(IIIJ)V"⟩, 18) := ⟨⟨by decide +kernel, by decide +kernel⟩, List.mem_of_getElem? (i := 87) (by decide +kernel), List.mem_of_getElem? (i := 400) (by decide +kernel), List.mem_of_getElem? (i := 401) (by decide +kernel)⟩
theorem lw_p7 : lw_okq (⟨"ParallelUndo$Attempt", "write", "(IJ)V"⟩, 18) := ⟨⟨by decide +kernel, by decide +kernel⟩, List.mem_of_getElem? (i := 87) (by decide +kernel), List.mem_of_getElem? (i := 404) (by decide +kernel), List.mem_of_getElem? (i := 405) (by decide +kernel)⟩
theorem lw_p8 : lw_okq (⟨"ParallelUndo$Attempt", "raise", "(J)V"⟩, 18) := ⟨⟨by decide +kernel, by decide +kernel⟩, List.mem_of_getElem? (i := 87) (by decide +kernel), List.mem_of_getElem? (i := 408) (by decide +kernel), List.mem_of_getElem? (i := 409) (by decide +kernel)⟩
theorem lw_p9 : lw_okq (⟨"ParallelUndo$Attempt", "fail", "()V"⟩, 18) := ⟨⟨by decide +kernel, by decide +kernel⟩, List.mem_of_getElem? (i := 87) (by decide +kernel), List.mem_of_getElem? (i := 412) (by decide +kernel), List.mem_of_getElem? (i := 413) (by decide +kernel)⟩
theorem lw_p10 : lw_okq (⟨"ParallelUndo$Workers", "giveUp", "(III)V"⟩, 17) := ⟨⟨by decide +kernel, by decide +kernel⟩, List.mem_of_getElem? (i := 55) (by decide +kernel), List.mem_of_getElem? (i := 416) (by decide +kernel), List.mem_of_getElem? (i := 417) (by decide +kernel)⟩
theorem lw_p11 : lw_okq (⟨"ParallelUndo$Workers", "end", "(II)V"⟩, 17) := ⟨⟨by decide +kernel, by decide +kernel⟩, List.mem_of_getElem? (i := 55) (by decide +kernel), List.mem_of_getElem? (i := 425) (by decide +kernel), List.mem_of_getElem? (i := 426) (by decide +kernel)⟩
theorem lw_p12 : lw_okq (⟨"ParallelUndo$Workers", "wakeThoseWaitingFor", "(I)V"⟩, 17) := ⟨⟨by decide +kernel, by decide +kernel⟩, List.mem_of_getElem? (i := 55) (by decide +kernel), List.mem_of_getElem? (i := 434) (by decide +kernel), List.mem_of_getElem? (i := 435) (by decide +kernel)⟩
theorem lw_p13 : lw_okq (⟨"ParallelUndo$Workers", "giveLook", "(II)V"⟩, 17) := ⟨⟨by decide +kernel, by decide +kernel⟩, List.mem_of_getElem? (i := 55) (by decide +kernel), List.mem_of_getElem? (i := 441) (by decide +kernel), List.mem_of_getElem? (i := 442) (by decide +kernel)⟩
theorem lw_p14 : lw_okq (⟨"ParallelUndo$Workers", "look", "(I)V"⟩, 17) := ⟨⟨by decide +kernel, by decide +kernel⟩, List.mem_of_getElem? (i := 55) (by decide +kernel), List.mem_of_getElem? (i := 445) (by decide +kernel), List.mem_of_getElem? (i := 446) (by decide +kernel)⟩
theorem lw_p15 : lw_okq (⟨"ParallelUndo$Workers", "undo", "(I)V"⟩, 17) := ⟨⟨by decide +kernel, by decide +kernel⟩, List.mem_of_getElem? (i := 55) (by decide +kernel), List.mem_of_getElem? (i := 454) (by decide +kernel), List.mem_of_getElem? (i := 455) (by decide +kernel)⟩
def lw_privs_1 : List (MethodName × Nat) := [(⟨"ParallelUndo$Workers", "isDone", "()Z"⟩, 17), (⟨"ParallelUndo$Workers", "step", "(ILParallelUndo$Block;)V"⟩, 17), (⟨"ParallelUndo$Workers", "goOn", "(ILParallelUndo$Block;)V"⟩, 17), (⟨"ParallelUndo$Attempt", "leafAt", "(IJ)I"⟩, 18), (⟨"ParallelUndo$Attempt", "read", "(IILParallelUndo$Table;)I"⟩, 18), (⟨"ParallelUndo$Attempt", "keep", "(IIIJ)V"⟩, 18), (⟨"ParallelUndo$Attempt", "perform", "(IIIJ)V"⟩, 18), (⟨"ParallelUndo$Attempt", "write", "(IJ)V"⟩, 18), (⟨"ParallelUndo$Attempt", "raise", "(J)V"⟩, 18), (⟨"ParallelUndo$Attempt", "fail", "()V"⟩, 18), (⟨"ParallelUndo$Workers", "giveUp", "(III)V"⟩, 17), (⟨"ParallelUndo$Workers", "end", "(II)V"⟩, 17), (⟨"ParallelUndo$Workers", "wakeThoseWaitingFor", "(I)V"⟩, 17), (⟨"ParallelUndo$Workers", "giveLook", "(II)V"⟩, 17), (⟨"ParallelUndo$Workers", "look", "(I)V"⟩, 17), (⟨"ParallelUndo$Workers", "undo", "(I)V"⟩, 17)]
theorem lw_r1 : ∀ q ∈ lw_privs_1, lw_okq q := List.forall_mem_cons.mpr ⟨lw_p0, List.forall_mem_cons.mpr ⟨lw_p1, List.forall_mem_cons.mpr ⟨lw_p2, List.forall_mem_cons.mpr ⟨lw_p3, List.forall_mem_cons.mpr ⟨lw_p4, List.forall_mem_cons.mpr ⟨lw_p5, List.forall_mem_cons.mpr ⟨lw_p6, List.forall_mem_cons.mpr ⟨lw_p7, List.forall_mem_cons.mpr ⟨lw_p8, List.forall_mem_cons.mpr ⟨lw_p9, List.forall_mem_cons.mpr ⟨lw_p10, List.forall_mem_cons.mpr ⟨lw_p11, List.forall_mem_cons.mpr ⟨lw_p12, List.forall_mem_cons.mpr ⟨lw_p13, List.forall_mem_cons.mpr ⟨lw_p14, List.forall_mem_cons.mpr ⟨lw_p15, fun _ h => absurd h List.not_mem_nil⟩⟩⟩⟩⟩⟩⟩⟩⟩⟩⟩⟩⟩⟩⟩⟩
theorem lw_p16 : lw_okq (⟨"ParallelUndo$Workers", "giveRun", "(II)V"⟩, 17) := ⟨⟨by decide +kernel, by decide +kernel⟩, List.mem_of_getElem? (i := 55) (by decide +kernel), List.mem_of_getElem? (i := 462) (by decide +kernel), List.mem_of_getElem? (i := 463) (by decide +kernel)⟩
theorem lw_p17 : lw_okq (⟨"ParallelUndo$Workers", "takeTask", "(I)V"⟩, 17) := ⟨⟨by decide +kernel, by decide +kernel⟩, List.mem_of_getElem? (i := 55) (by decide +kernel), List.mem_of_getElem? (i := 473) (by decide +kernel), List.mem_of_getElem? (i := 474) (by decide +kernel)⟩
theorem lw_p18 : lw_okq (⟨"ParallelUndo$Bench", "joinTouching", "(I)V"⟩, 3) := ⟨⟨by decide +kernel, by decide +kernel⟩, List.mem_of_getElem? (i := 61) (by decide +kernel), List.mem_of_getElem? (i := 489) (by decide +kernel), List.mem_of_getElem? (i := 490) (by decide +kernel)⟩
theorem lw_p19 : lw_okq (⟨"ParallelUndo$Bench", "joinGroups", "(II)V"⟩, 3) := ⟨⟨by decide +kernel, by decide +kernel⟩, List.mem_of_getElem? (i := 61) (by decide +kernel), List.mem_of_getElem? (i := 497) (by decide +kernel), List.mem_of_getElem? (i := 498) (by decide +kernel)⟩
theorem lw_p20 : lw_okq (⟨"ParallelUndoModel", "isDone", "(I)Z"⟩, 61) := ⟨⟨by decide +kernel, by decide +kernel⟩, List.mem_of_getElem? (i := 580) (by decide +kernel), List.mem_of_getElem? (i := 796) (by decide +kernel), List.mem_of_getElem? (i := 797) (by decide +kernel)⟩
theorem lw_p21 : lw_okq (⟨"ParallelUndoModel", "step", "(I)V"⟩, 61) := ⟨⟨by decide +kernel, by decide +kernel⟩, List.mem_of_getElem? (i := 580) (by decide +kernel), List.mem_of_getElem? (i := 801) (by decide +kernel), List.mem_of_getElem? (i := 802) (by decide +kernel)⟩
theorem lw_p22 : lw_okq (⟨"ParallelUndoModel", "runStep", "(I)V"⟩, 61) := ⟨⟨by decide +kernel, by decide +kernel⟩, List.mem_of_getElem? (i := 580) (by decide +kernel), List.mem_of_getElem? (i := 805) (by decide +kernel), List.mem_of_getElem? (i := 806) (by decide +kernel)⟩
theorem lw_p23 : lw_okq (⟨"ParallelUndoModel", "isOver", "(I)Z"⟩, 61) := ⟨⟨by decide +kernel, by decide +kernel⟩, List.mem_of_getElem? (i := 580) (by decide +kernel), List.mem_of_getElem? (i := 809) (by decide +kernel), List.mem_of_getElem? (i := 810) (by decide +kernel)⟩
theorem lw_p24 : lw_okq (⟨"ParallelUndoModel", "doAct", "(I)I"⟩, 61) := ⟨⟨by decide +kernel, by decide +kernel⟩, List.mem_of_getElem? (i := 580) (by decide +kernel), List.mem_of_getElem? (i := 813) (by decide +kernel), List.mem_of_getElem? (i := 814) (by decide +kernel)⟩
theorem lw_p25 : lw_okq (⟨"ParallelUndoModel", "see", "(II)V"⟩, 61) := ⟨⟨by decide +kernel, by decide +kernel⟩, List.mem_of_getElem? (i := 580) (by decide +kernel), List.mem_of_getElem? (i := 821) (by decide +kernel), List.mem_of_getElem? (i := 822) (by decide +kernel)⟩
theorem lw_p26 : lw_okq (⟨"ParallelUndoModel", "conflict0", "(II)V"⟩, 61) := ⟨⟨by decide +kernel, by decide +kernel⟩, List.mem_of_getElem? (i := 580) (by decide +kernel), List.mem_of_getElem? (i := 825) (by decide +kernel), List.mem_of_getElem? (i := 826) (by decide +kernel)⟩
theorem lw_p27 : lw_okq (⟨"ParallelUndoModel", "ends", "(II)V"⟩, 61) := ⟨⟨by decide +kernel, by decide +kernel⟩, List.mem_of_getElem? (i := 580) (by decide +kernel), List.mem_of_getElem? (i := 829) (by decide +kernel), List.mem_of_getElem? (i := 830) (by decide +kernel)⟩
theorem lw_p28 : lw_okq (⟨"ParallelUndoModel", "toLook", "(II)V"⟩, 61) := ⟨⟨by decide +kernel, by decide +kernel⟩, List.mem_of_getElem? (i := 580) (by decide +kernel), List.mem_of_getElem? (i := 833) (by decide +kernel), List.mem_of_getElem? (i := 834) (by decide +kernel)⟩
theorem lw_p29 : lw_okq (⟨"ParallelUndoModel", "lookStep", "(I)V"⟩, 61) := ⟨⟨by decide +kernel, by decide +kernel⟩, List.mem_of_getElem? (i := 580) (by decide +kernel), List.mem_of_getElem? (i := 837) (by decide +kernel), List.mem_of_getElem? (i := 838) (by decide +kernel)⟩
theorem lw_p30 : lw_okq (⟨"ParallelUndoModel", "toRun", "(II)V"⟩, 61) := ⟨⟨by decide +kernel, by decide +kernel⟩, List.mem_of_getElem? (i := 580) (by decide +kernel), List.mem_of_getElem? (i := 841) (by decide +kernel), List.mem_of_getElem? (i := 842) (by decide +kernel)⟩
theorem lw_p31 : lw_okq (⟨"ParallelUndoModel", "begin", "(I)V"⟩, 61) := ⟨⟨by decide +kernel, by decide +kernel⟩, List.mem_of_getElem? (i := 580) (by decide +kernel), List.mem_of_getElem? (i := 845) (by decide +kernel), List.mem_of_getElem? (i := 846) (by decide +kernel)⟩
def lw_privs_2 : List (MethodName × Nat) := [(⟨"ParallelUndo$Workers", "giveRun", "(II)V"⟩, 17), (⟨"ParallelUndo$Workers", "takeTask", "(I)V"⟩, 17), (⟨"ParallelUndo$Bench", "joinTouching", "(I)V"⟩, 3), (⟨"ParallelUndo$Bench", "joinGroups", "(II)V"⟩, 3), (⟨"ParallelUndoModel", "isDone", "(I)Z"⟩, 61), (⟨"ParallelUndoModel", "step", "(I)V"⟩, 61), (⟨"ParallelUndoModel", "runStep", "(I)V"⟩, 61), (⟨"ParallelUndoModel", "isOver", "(I)Z"⟩, 61), (⟨"ParallelUndoModel", "doAct", "(I)I"⟩, 61), (⟨"ParallelUndoModel", "see", "(II)V"⟩, 61), (⟨"ParallelUndoModel", "conflict0", "(II)V"⟩, 61), (⟨"ParallelUndoModel", "ends", "(II)V"⟩, 61), (⟨"ParallelUndoModel", "toLook", "(II)V"⟩, 61), (⟨"ParallelUndoModel", "lookStep", "(I)V"⟩, 61), (⟨"ParallelUndoModel", "toRun", "(II)V"⟩, 61), (⟨"ParallelUndoModel", "begin", "(I)V"⟩, 61)]
theorem lw_r2 : ∀ q ∈ lw_privs_2, lw_okq q := List.forall_mem_cons.mpr ⟨lw_p16, List.forall_mem_cons.mpr ⟨lw_p17, List.forall_mem_cons.mpr ⟨lw_p18, List.forall_mem_cons.mpr ⟨lw_p19, List.forall_mem_cons.mpr ⟨lw_p20, List.forall_mem_cons.mpr ⟨lw_p21, List.forall_mem_cons.mpr ⟨lw_p22, List.forall_mem_cons.mpr ⟨lw_p23, List.forall_mem_cons.mpr ⟨lw_p24, List.forall_mem_cons.mpr ⟨lw_p25, List.forall_mem_cons.mpr ⟨lw_p26, List.forall_mem_cons.mpr ⟨lw_p27, List.forall_mem_cons.mpr ⟨lw_p28, List.forall_mem_cons.mpr ⟨lw_p29, List.forall_mem_cons.mpr ⟨lw_p30, List.forall_mem_cons.mpr ⟨lw_p31, fun _ h => absurd h List.not_mem_nil⟩⟩⟩⟩⟩⟩⟩⟩⟩⟩⟩⟩⟩⟩⟩⟩
theorem lw_p32 : lw_okq (⟨"ParallelUndoModel", "allInOrder", "()V"⟩, 61) := ⟨⟨by decide +kernel, by decide +kernel⟩, List.mem_of_getElem? (i := 580) (by decide +kernel), List.mem_of_getElem? (i := 849) (by decide +kernel), List.mem_of_getElem? (i := 850) (by decide +kernel)⟩
theorem lw_p33 : lw_okq (⟨"ParallelUndoModel", "settle", "()V"⟩, 61) := ⟨⟨by decide +kernel, by decide +kernel⟩, List.mem_of_getElem? (i := 580) (by decide +kernel), List.mem_of_getElem? (i := 853) (by decide +kernel), List.mem_of_getElem? (i := 854) (by decide +kernel)⟩
theorem lw_p34 : lw_okq (⟨"ParallelUndoModel", "touches", "(II)Z"⟩, 61) := ⟨⟨by decide +kernel, by decide +kernel⟩, List.mem_of_getElem? (i := 580) (by decide +kernel), List.mem_of_getElem? (i := 857) (by decide +kernel), List.mem_of_getElem? (i := 858) (by decide +kernel)⟩
theorem lw_p35 : lw_okq (⟨"ParallelUndoModel", "rootOf", "(I)I"⟩, 61) := ⟨⟨by decide +kernel, by decide +kernel⟩, List.mem_of_getElem? (i := 580) (by decide +kernel), List.mem_of_getElem? (i := 861) (by decide +kernel), List.mem_of_getElem? (i := 862) (by decide +kernel)⟩
def lw_privs_3 : List (MethodName × Nat) := [(⟨"ParallelUndoModel", "allInOrder", "()V"⟩, 61), (⟨"ParallelUndoModel", "settle", "()V"⟩, 61), (⟨"ParallelUndoModel", "touches", "(II)Z"⟩, 61), (⟨"ParallelUndoModel", "rootOf", "(I)I"⟩, 61)]
theorem lw_r3 : ∀ q ∈ lw_privs_3, lw_okq q := List.forall_mem_cons.mpr ⟨lw_p32, List.forall_mem_cons.mpr ⟨lw_p33, List.forall_mem_cons.mpr ⟨lw_p34, List.forall_mem_cons.mpr ⟨lw_p35, fun _ h => absurd h List.not_mem_nil⟩⟩⟩⟩
def lw_privs : List (MethodName × Nat) := lw_privs_1 ++ (lw_privs_2 ++ (lw_privs_3))
def lw_tbl : List Cond := k2_sels lw_privs ++ tables_1
theorem lw_privs_ok : ∀ q ∈ lw_privs, lw_okq q := by
  show ∀ q ∈ lw_privs_1 ++ (lw_privs_2 ++ (lw_privs_3)), lw_okq q
  exact List.forall_mem_append.mpr ⟨lw_r1, List.forall_mem_append.mpr ⟨lw_r2, lw_r3⟩⟩
end
section
/-! ===== BEGIN words of one list among another's, by their places ===== -/
theorem goodIn_r {big : List Cond} (ws : List Cond) (ps : List Nat) (hp : ws = ps.filterMap (fun i => big[i]?)) (h : ws.all goodWord = true) : GoodIn big ws := by
  intro w hw
  have h1 := List.all_eq_true.mp h w hw
  rw [hp] at hw
  obtain ⟨i, -, hi⟩ := List.mem_filterMap.mp hw
  have hm : w ∈ big := by first | exact List.mem_of_getElem? hi | exact List.getElem?_mem hi
  exact ⟨hm, good_of_word h1⟩
theorem goodIn_app {big a b : List Cond} (ha : GoodIn big a) (hb : GoodIn big b) : GoodIn big (a ++ b) := fun w h => (List.mem_append.mp h).elim (ha w) (hb w)
theorem goodIn_ca {big a b : List Cond} {c : Cond} (ha : GoodIn big (c :: a)) (hb : GoodIn big b) : GoodIn big (c :: (a ++ b)) := fun w h => (List.mem_cons.mp h).elim (fun e => ha w (List.mem_cons.mpr (Or.inl e))) (fun h => (List.mem_append.mp h).elim (fun h => ha w (List.mem_cons.mpr (Or.inr h))) (hb w))
theorem goodIn_sub {big ws : List Cond} (hm : ∀ w ∈ ws, w ∈ big) (h : ws.all goodWord = true) : GoodIn big ws := fun w hw => ⟨hm w hw, good_of_word (List.all_eq_true.mp h w hw)⟩
/-! ===== END ===== -/

/-! ===== BEGIN printed: names, fields, word lists, decode rows ===== -/
def RX0 : String := "ParallelUndo$Attempt"
def TX0 : u_T := fun k => match k with
  | 0 => ("ParallelUndo$Attempt", "self", "I", true)
  | 1 => ("ParallelUndo$Attempt", "began", "I", false)
  | 2 => ("ParallelUndo$Attempt", "doneInAll", "I", false)
  | 3 => ("ParallelUndo$Attempt", "done", "I", false)
  | 4 => ("ParallelUndo$Attempt", "failed", "Z", false)
  | 5 => ("ParallelUndo$Attempt", "kept", "I", false)
  | 6 => ("ParallelUndo$Attempt", "eventCount", "I", false)
  | 7 => ("ParallelUndo$Attempt", "group", "I", false)
  | 8 => ("ParallelUndo$Attempt", "written", "[J", true)
  | 9 => ("ParallelUndo$Attempt", "eventValue", "[J", true)
  | 10 => ("ParallelUndo$Attempt", "next", "I", false)
  | 11 => ("ParallelUndo$Attempt", "keptMask", "I", false)
  | 12 => ("ParallelUndo$Attempt", "writtenMask", "I", false)
  | 13 => ("ParallelUndo$Attempt", "register", "[J", true)
  | 14 => ("ParallelUndo$Attempt", "keptValue", "[J", true)
  | 15 => ("ParallelUndo$Attempt", "keptLeaf", "[I", true)
  | 16 => ("ParallelUndo$Attempt", "keptWriter", "[I", true)
  | _ => ("ParallelUndo$Attempt", "keptNumber", "[I", true)
def tyX0 : Nat → FieldType := fun k => match k with
  | 0 => .int
  | 1 => .int
  | 2 => .int
  | 3 => .int
  | 4 => .boolean
  | 5 => .int
  | 6 => .int
  | 7 => .int
  | 8 => .array .long
  | 9 => .array .long
  | 10 => .int
  | 11 => .int
  | 12 => .int
  | 13 => .array .long
  | 14 => .array .long
  | 15 => .array .int
  | 16 => .array .int
  | _ => .array .int
abbrev wsX00 : List Cond := u_ws RX0 TX0 18
theorem nmX0 : ∀ a, a < 18 → ∀ b, b < 18 → a ≠ b → (TX0 a).2.1 ≠ (TX0 b).2.1 := by decide +kernel
theorem tyX0_ok : ∀ k, k < 18 → parseFieldDescriptor (TX0 k).2.2.1 = some (tyX0 k) := by decide +kernel
abbrev cX0_init : ByteArray := prog_2_method_1_code
def yX0_init : MethodName := ⟨RX0, "<init>", "(I)V"⟩
abbrev cX0_open : ByteArray := prog_2_method_2_code
def yX0_open : MethodName := ⟨RX0, "open", "()V"⟩
abbrev cX0_begin : ByteArray := prog_2_method_3_code
def yX0_begin : MethodName := ⟨RX0, "begin", "()V"⟩
abbrev cX0_isOver : ByteArray := prog_2_method_4_code
def yX0_isOver : MethodName := ⟨RX0, "isOver", "(LParallelUndo$Block;)Z"⟩
abbrev cX0_hasWritten : ByteArray := prog_2_method_5_code
def yX0_hasWritten : MethodName := ⟨RX0, "hasWritten", "(I)Z"⟩
abbrev cX0_countWritten : ByteArray := prog_2_method_6_code
def yX0_countWritten : MethodName := ⟨RX0, "countWritten", "()I"⟩
abbrev cX0_touched : ByteArray := prog_2_method_7_code
def yX0_touched : MethodName := ⟨RX0, "touched", "(I)Z"⟩
abbrev cX0_doNext : ByteArray := prog_2_method_8_code
def yX0_doNext : MethodName := ⟨RX0, "doNext", "(LParallelUndo$Block;LParallelUndo$Table;)I"⟩
abbrev cX0_leafAt : ByteArray := prog_2_method_9_code
def yX0_leafAt : MethodName := ⟨RX0, "leafAt", "(IJ)I"⟩
abbrev cX0_read : ByteArray := prog_2_method_10_code
def yX0_read : MethodName := ⟨RX0, "read", "(IILParallelUndo$Table;)I"⟩
abbrev cX0_keep : ByteArray := prog_2_method_11_code
def yX0_keep : MethodName := ⟨RX0, "keep", "(IIIJ)V"⟩
abbrev cX0_perform : ByteArray := prog_2_method_12_code
def yX0_perform : MethodName := ⟨RX0, "perform", "(IIIJ)V"⟩
abbrev cX0_write : ByteArray := prog_2_method_13_code
def yX0_write : MethodName := ⟨RX0, "write", "(IJ)V"⟩
abbrev cX0_raise : ByteArray := prog_2_method_14_code
def yX0_raise : MethodName := ⟨RX0, "raise", "(J)V"⟩
abbrev cX0_fail : ByteArray := prog_2_method_15_code
def yX0_fail : MethodName := ⟨RX0, "fail", "()V"⟩
abbrev cX0_firstChanged : ByteArray := prog_2_method_16_code
def yX0_firstChanged : MethodName := ⟨RX0, "firstChanged", "(LParallelUndo$Table;)I"⟩
def RX1 : String := "ParallelUndo$Bench"
def TX1 : u_T := fun k => match k with
  | 0 => ("ParallelUndo$Bench", "table", "LParallelUndo$Table;", true)
  | 1 => ("ParallelUndo$Bench", "attempts", "[LParallelUndo$Attempt;", true)
  | _ => ("ParallelUndo$Bench", "calls", "I", false)
def tyX1 : Nat → FieldType := fun k => match k with
  | 0 => .object "ParallelUndo$Table"
  | 1 => .array (.object "ParallelUndo$Attempt")
  | _ => .int
abbrev wsX10 : List Cond := u_ws RX1 TX1 3
theorem nmX1 : ∀ a, a < 3 → ∀ b, b < 3 → a ≠ b → (TX1 a).2.1 ≠ (TX1 b).2.1 := by decide +kernel
theorem tyX1_ok : ∀ k, k < 3 → parseFieldDescriptor (TX1 k).2.2.1 = some (tyX1 k) := by decide +kernel
abbrev cX1_init : ByteArray := prog_3_method_1_code
def yX1_init : MethodName := ⟨RX1, "<init>", "()V"⟩
abbrev cX1_open : ByteArray := prog_3_method_2_code
def yX1_open : MethodName := ⟨RX1, "open", "(LParallelUndo$Block;[J)V"⟩
abbrev cX1_runOneByOne : ByteArray := prog_3_method_3_code
def yX1_runOneByOne : MethodName := ⟨RX1, "runOneByOne", "(LParallelUndo$Block;)V"⟩
abbrev cX1_formGroups : ByteArray := prog_3_method_4_code
def yX1_formGroups : MethodName := ⟨RX1, "formGroups", "()V"⟩
abbrev cX1_joinTouching : ByteArray := prog_3_method_5_code
def yX1_joinTouching : MethodName := ⟨RX1, "joinTouching", "(I)V"⟩
abbrev cX1_joinGroups : ByteArray := prog_3_method_6_code
def yX1_joinGroups : MethodName := ⟨RX1, "joinGroups", "(II)V"⟩
abbrev cX1_countGroups : ByteArray := prog_3_method_7_code
def yX1_countGroups : MethodName := ⟨RX1, "countGroups", "()I"⟩
abbrev cX1_countActs : ByteArray := prog_3_method_8_code
def yX1_countActs : MethodName := ⟨RX1, "countActs", "()I"⟩
abbrev cX1_countEvents : ByteArray := prog_3_method_9_code
def yX1_countEvents : MethodName := ⟨RX1, "countEvents", "()I"⟩
abbrev cX1_tellEvent : ByteArray := prog_3_method_10_code
def yX1_tellEvent : MethodName := ⟨RX1, "tellEvent", "(II)J"⟩
abbrev cX1_tellCall : ByteArray := prog_3_method_11_code
def yX1_tellCall : MethodName := ⟨RX1, "tellCall", "(II)I"⟩
def RX2 : String := "ParallelUndo$Block"
def TX2 : u_T := fun k => match k with
  | 0 => ("ParallelUndo$Block", "calls", "I", false)
  | 1 => ("ParallelUndo$Block", "acts", "[I", true)
  | 2 => ("ParallelUndo$Block", "kind", "[I", true)
  | 3 => ("ParallelUndo$Block", "first", "[I", true)
  | 4 => ("ParallelUndo$Block", "second", "[I", true)
  | _ => ("ParallelUndo$Block", "value", "[J", true)
def tyX2 : Nat → FieldType := fun k => match k with
  | 0 => .int
  | 1 => .array .int
  | 2 => .array .int
  | 3 => .array .int
  | 4 => .array .int
  | _ => .array .long
abbrev wsX20 : List Cond := u_ws RX2 TX2 6
theorem nmX2 : ∀ a, a < 6 → ∀ b, b < 6 → a ≠ b → (TX2 a).2.1 ≠ (TX2 b).2.1 := by decide +kernel
theorem tyX2_ok : ∀ k, k < 6 → parseFieldDescriptor (TX2 k).2.2.1 = some (tyX2 k) := by decide +kernel
abbrev cX2_init : ByteArray := prog_4_method_1_code
def yX2_init : MethodName := ⟨RX2, "<init>", "()V"⟩
abbrev cX2_addCall : ByteArray := prog_4_method_2_code
def yX2_addCall : MethodName := ⟨RX2, "addCall", "()I"⟩
abbrev cX2_addAct : ByteArray := prog_4_method_3_code
def yX2_addAct : MethodName := ⟨RX2, "addAct", "(IIIIJ)I"⟩
abbrev cX2_dropCalls : ByteArray := prog_4_method_4_code
def yX2_dropCalls : MethodName := ⟨RX2, "dropCalls", "()I"⟩
abbrev cX2_hasAct : ByteArray := prog_4_method_5_code
def yX2_hasAct : MethodName := ⟨RX2, "hasAct", "(II)Z"⟩
def RX3 : String := "ParallelUndo$Conflicts"
def TX3 : u_T := fun k => match k with
  | 0 => ("ParallelUndo$Conflicts", "count", "I", false)
  | 1 => ("ParallelUndo$Conflicts", "hit", "[I", true)
  | _ => ("ParallelUndo$Conflicts", "by", "[I", true)
def tyX3 : Nat → FieldType := fun k => match k with
  | 0 => .int
  | 1 => .array .int
  | _ => .array .int
abbrev wsX30 : List Cond := u_ws RX3 TX3 3
theorem nmX3 : ∀ a, a < 3 → ∀ b, b < 3 → a ≠ b → (TX3 a).2.1 ≠ (TX3 b).2.1 := by decide +kernel
theorem tyX3_ok : ∀ k, k < 3 → parseFieldDescriptor (TX3 k).2.2.1 = some (tyX3 k) := by decide +kernel
abbrev cX3_init : ByteArray := prog_5_method_1_code
def yX3_init : MethodName := ⟨RX3, "<init>", "()V"⟩
abbrev cX3_note : ByteArray := prog_5_method_2_code
def yX3_note : MethodName := ⟨RX3, "note", "(II)V"⟩
abbrev cX3_tell : ByteArray := prog_5_method_3_code
def yX3_tell : MethodName := ⟨RX3, "tell", "(II)I"⟩
def RX4 : String := "ParallelUndo$Kinds"
def TX4 : u_T := fun k => match k with
  | _ => ("", "", "", false)
def tyX4 : Nat → FieldType := fun k => match k with
  | _ => .int
abbrev wsX40 : List Cond := u_ws RX4 TX4 0
theorem nmX4 : ∀ a, a < 0 → ∀ b, b < 0 → a ≠ b → (TX4 a).2.1 ≠ (TX4 b).2.1 := by decide +kernel
theorem tyX4_ok : ∀ k, k < 0 → parseFieldDescriptor (TX4 k).2.2.1 = some (tyX4 k) := by decide +kernel
abbrev cX4_allows : ByteArray := prog_6_method_2_code
def yX4_allows : MethodName := ⟨RX4, "allows", "(IIIJ)Z"⟩
abbrev cX4_isRegister : ByteArray := prog_6_method_3_code
def yX4_isRegister : MethodName := ⟨RX4, "isRegister", "(I)Z"⟩
abbrev cX4_hasSecond : ByteArray := prog_6_method_4_code
def yX4_hasSecond : MethodName := ⟨RX4, "hasSecond", "(I)Z"⟩
abbrev cX4_allowsValue : ByteArray := prog_6_method_5_code
def yX4_allowsValue : MethodName := ⟨RX4, "allowsValue", "(IJ)Z"⟩
def RX5 : String := "ParallelUndo$Table"
def TX5 : u_T := fun k => match k with
  | 0 => ("ParallelUndo$Table", "before", "[J", true)
  | 1 => ("ParallelUndo$Table", "state", "[I", true)
  | 2 => ("ParallelUndo$Table", "number", "[I", true)
  | _ => ("ParallelUndo$Table", "value", "[J", true)
def tyX5 : Nat → FieldType := fun k => match k with
  | 0 => .array .long
  | 1 => .array .int
  | 2 => .array .int
  | _ => .array .long
abbrev wsX50 : List Cond := u_ws RX5 TX5 4
theorem nmX5 : ∀ a, a < 4 → ∀ b, b < 4 → a ≠ b → (TX5 a).2.1 ≠ (TX5 b).2.1 := by decide +kernel
theorem tyX5_ok : ∀ k, k < 4 → parseFieldDescriptor (TX5 k).2.2.1 = some (tyX5 k) := by decide +kernel
abbrev cX5_init : ByteArray := prog_7_method_1_code
def yX5_init : MethodName := ⟨RX5, "<init>", "()V"⟩
abbrev cX5_open : ByteArray := prog_7_method_2_code
def yX5_open : MethodName := ⟨RX5, "open", "([J)V"⟩
abbrev cX5_writerBelow : ByteArray := prog_7_method_3_code
def yX5_writerBelow : MethodName := ⟨RX5, "writerBelow", "(II)I"⟩
abbrev cX5_isPerhaps : ByteArray := prog_7_method_4_code
def yX5_isPerhaps : MethodName := ⟨RX5, "isPerhaps", "(II)Z"⟩
abbrev cX5_numberOf : ByteArray := prog_7_method_5_code
def yX5_numberOf : MethodName := ⟨RX5, "numberOf", "(II)I"⟩
abbrev cX5_valueOf : ByteArray := prog_7_method_6_code
def yX5_valueOf : MethodName := ⟨RX5, "valueOf", "(II)J"⟩
abbrev cX5_valueAfter : ByteArray := prog_7_method_7_code
def yX5_valueAfter : MethodName := ⟨RX5, "valueAfter", "(I)J"⟩
abbrev cX5_publish : ByteArray := prog_7_method_8_code
def yX5_publish : MethodName := ⟨RX5, "publish", "(LParallelUndo$Attempt;I)Z"⟩
abbrev cX5_doubt : ByteArray := prog_7_method_9_code
def yX5_doubt : MethodName := ⟨RX5, "doubt", "(I)V"⟩
def RX6 : String := "ParallelUndo$Workers"
def TX6 : u_T := fun k => match k with
  | 0 => ("ParallelUndo$Workers", "bench", "LParallelUndo$Bench;", true)
  | 1 => ("ParallelUndo$Workers", "conflicts", "LParallelUndo$Conflicts;", true)
  | 2 => ("ParallelUndo$Workers", "turns", "I", false)
  | 3 => ("ParallelUndo$Workers", "looks", "I", false)
  | 4 => ("ParallelUndo$Workers", "undone", "I", false)
  | 5 => ("ParallelUndo$Workers", "givenUp", "I", false)
  | 6 => ("ParallelUndo$Workers", "fell", "Z", false)
  | 7 => ("ParallelUndo$Workers", "size", "I", false)
  | 8 => ("ParallelUndo$Workers", "fallBound", "I", false)
  | 9 => ("ParallelUndo$Workers", "runRow", "I", false)
  | 10 => ("ParallelUndo$Workers", "lookRow", "I", false)
  | 11 => ("ParallelUndo$Workers", "status", "[I", true)
  | 12 => ("ParallelUndo$Workers", "awaited", "[I", true)
  | 13 => ("ParallelUndo$Workers", "number", "[I", true)
  | 14 => ("ParallelUndo$Workers", "task", "[I", true)
  | 15 => ("ParallelUndo$Workers", "taskCall", "[I", true)
  | _ => ("ParallelUndo$Workers", "taskNumber", "[I", true)
def tyX6 : Nat → FieldType := fun k => match k with
  | 0 => .object "ParallelUndo$Bench"
  | 1 => .object "ParallelUndo$Conflicts"
  | 2 => .int
  | 3 => .int
  | 4 => .int
  | 5 => .int
  | 6 => .boolean
  | 7 => .int
  | 8 => .int
  | 9 => .int
  | 10 => .int
  | 11 => .array .int
  | 12 => .array .int
  | 13 => .array .int
  | 14 => .array .int
  | 15 => .array .int
  | _ => .array .int
abbrev wsX60 : List Cond := u_ws RX6 TX6 17
theorem nmX6 : ∀ a, a < 17 → ∀ b, b < 17 → a ≠ b → (TX6 a).2.1 ≠ (TX6 b).2.1 := by decide +kernel
theorem tyX6_ok : ∀ k, k < 17 → parseFieldDescriptor (TX6 k).2.2.1 = some (tyX6 k) := by decide +kernel
abbrev cX6_init : ByteArray := prog_8_method_1_code
def yX6_init : MethodName := ⟨RX6, "<init>", "()V"⟩
abbrev cX6_open : ByteArray := prog_8_method_2_code
def yX6_open : MethodName := ⟨RX6, "open", "(LParallelUndo$Block;[JII)V"⟩
abbrev cX6_work : ByteArray := prog_8_method_3_code
def yX6_work : MethodName := ⟨RX6, "work", "(LParallelUndo$Block;I)V"⟩
abbrev cX6_isDone : ByteArray := prog_8_method_4_code
def yX6_isDone : MethodName := ⟨RX6, "isDone", "()Z"⟩
abbrev cX6_step : ByteArray := prog_8_method_5_code
def yX6_step : MethodName := ⟨RX6, "step", "(ILParallelUndo$Block;)V"⟩
abbrev cX6_takeTask : ByteArray := prog_8_method_6_code
def yX6_takeTask : MethodName := ⟨RX6, "takeTask", "(I)V"⟩
abbrev cX6_giveLook : ByteArray := prog_8_method_7_code
def yX6_giveLook : MethodName := ⟨RX6, "giveLook", "(II)V"⟩
abbrev cX6_giveRun : ByteArray := prog_8_method_8_code
def yX6_giveRun : MethodName := ⟨RX6, "giveRun", "(II)V"⟩
abbrev cX6_goOn : ByteArray := prog_8_method_9_code
def yX6_goOn : MethodName := ⟨RX6, "goOn", "(ILParallelUndo$Block;)V"⟩
abbrev cX6_giveUp : ByteArray := prog_8_method_10_code
def yX6_giveUp : MethodName := ⟨RX6, "giveUp", "(III)V"⟩
abbrev cX6_end : ByteArray := prog_8_method_11_code
def yX6_end : MethodName := ⟨RX6, "end", "(II)V"⟩
abbrev cX6_wakeThoseWaitingFor : ByteArray := prog_8_method_12_code
def yX6_wakeThoseWaitingFor : MethodName := ⟨RX6, "wakeThoseWaitingFor", "(I)V"⟩
abbrev cX6_look : ByteArray := prog_8_method_13_code
def yX6_look : MethodName := ⟨RX6, "look", "(I)V"⟩
abbrev cX6_undo : ByteArray := prog_8_method_14_code
def yX6_undo : MethodName := ⟨RX6, "undo", "(I)V"⟩
abbrev cX6_tell : ByteArray := prog_8_method_15_code
def yX6_tell : MethodName := ⟨RX6, "tell", "(I)I"⟩
def RX7 : String := "ParallelUndo"
def TX7 : u_T := fun k => match k with
  | 0 => ("ParallelUndo", "leaves", "[J", true)
  | 1 => ("ParallelUndo", "block", "LParallelUndo$Block;", true)
  | 2 => ("ParallelUndo", "latest", "LParallelUndo$Workers;", true)
  | 3 => ("ParallelUndo", "trial", "LParallelUndo$Bench;", true)
  | _ => ("ParallelUndo", "fallBound", "I", false)
def tyX7 : Nat → FieldType := fun k => match k with
  | 0 => .array .long
  | 1 => .object "ParallelUndo$Block"
  | 2 => .object "ParallelUndo$Workers"
  | 3 => .object "ParallelUndo$Bench"
  | _ => .int
abbrev wsX70 : List Cond := u_ws RX7 TX7 5
theorem nmX7 : ∀ a, a < 5 → ∀ b, b < 5 → a ≠ b → (TX7 a).2.1 ≠ (TX7 b).2.1 := by decide +kernel
theorem tyX7_ok : ∀ k, k < 5 → parseFieldDescriptor (TX7 k).2.2.1 = some (tyX7 k) := by decide +kernel
abbrev cX7_init : ByteArray := prog_1_method_1_code
def yX7_init : MethodName := ⟨RX7, "<init>", "()V"⟩
abbrev cX7_call : ByteArray := prog_1_method_2_code
def yX7_call : MethodName := ⟨RX7, "call", "()I"⟩
abbrev cX7_act : ByteArray := prog_1_method_3_code
def yX7_act : MethodName := ⟨RX7, "act", "(IIIIJ)I"⟩
abbrev cX7_clear : ByteArray := prog_1_method_4_code
def yX7_clear : MethodName := ⟨RX7, "clear", "()I"⟩
abbrev cX7_leaf : ByteArray := prog_1_method_5_code
def yX7_leaf : MethodName := ⟨RX7, "leaf", "(IJ)Z"⟩
abbrev cX7_bound : ByteArray := prog_1_method_6_code
def yX7_bound : MethodName := ⟨RX7, "bound", "(I)Z"⟩
abbrev cX7_run : ByteArray := prog_1_method_7_code
def yX7_run : MethodName := ⟨RX7, "run", "(II)I"⟩
abbrev cX7_at : ByteArray := prog_1_method_8_code
def yX7_at : MethodName := ⟨RX7, "at", "(I)J"⟩
abbrev cX7_inOrder : ByteArray := prog_1_method_9_code
def yX7_inOrder : MethodName := ⟨RX7, "inOrder", "(I)J"⟩
abbrev cX7_events : ByteArray := prog_1_method_10_code
def yX7_events : MethodName := ⟨RX7, "events", "()I"⟩
abbrev cX7_event : ByteArray := prog_1_method_11_code
def yX7_event : MethodName := ⟨RX7, "event", "(II)J"⟩
abbrev cX7_of : ByteArray := prog_1_method_12_code
def yX7_of : MethodName := ⟨RX7, "of", "(II)I"⟩
abbrev cX7_conflicts : ByteArray := prog_1_method_13_code
def yX7_conflicts : MethodName := ⟨RX7, "conflicts", "()I"⟩
abbrev cX7_conflict : ByteArray := prog_1_method_14_code
def yX7_conflict : MethodName := ⟨RX7, "conflict", "(II)I"⟩
abbrev cX7_told : ByteArray := prog_1_method_15_code
def yX7_told : MethodName := ⟨RX7, "told", "(I)I"⟩
abbrev cX7_isLeaf : ByteArray := prog_1_method_16_code
def yX7_isLeaf : MethodName := ⟨RX7, "isLeaf", "(I)Z"⟩
def RX8 : String := "ParallelUndoModel"
def TX8 : u_T := fun k => match k with
  | 0 => ("ParallelUndoModel", "leaf", "[J", true)
  | 1 => ("ParallelUndoModel", "calls", "I", false)
  | 2 => ("ParallelUndoModel", "bound", "I", false)
  | 3 => ("ParallelUndoModel", "acts", "[I", true)
  | 4 => ("ParallelUndoModel", "kind", "[I", true)
  | 5 => ("ParallelUndoModel", "left", "[I", true)
  | 6 => ("ParallelUndoModel", "right", "[I", true)
  | 7 => ("ParallelUndoModel", "number", "[J", true)
  | 8 => ("ParallelUndoModel", "place", "[I", true)
  | 9 => ("ParallelUndoModel", "register", "[J", true)
  | 10 => ("ParallelUndoModel", "failed", "[Z", true)
  | 11 => ("ParallelUndoModel", "wrote", "[Z", true)
  | 12 => ("ParallelUndoModel", "written", "[J", true)
  | 13 => ("ParallelUndoModel", "kept", "[I", true)
  | 14 => ("ParallelUndoModel", "keptLeaf", "[I", true)
  | 15 => ("ParallelUndoModel", "keptCall", "[I", true)
  | 16 => ("ParallelUndoModel", "keptRun", "[I", true)
  | 17 => ("ParallelUndoModel", "keptValue", "[J", true)
  | 18 => ("ParallelUndoModel", "eventCount", "[I", true)
  | 19 => ("ParallelUndoModel", "eventValue", "[J", true)
  | 20 => ("ParallelUndoModel", "began", "[I", true)
  | 21 => ("ParallelUndoModel", "did", "[I", true)
  | 22 => ("ParallelUndoModel", "allActs", "I", false)
  | 23 => ("ParallelUndoModel", "has", "[Z", true)
  | 24 => ("ParallelUndoModel", "perhaps", "[Z", true)
  | 25 => ("ParallelUndoModel", "value", "[J", true)
  | 26 => ("ParallelUndoModel", "ofRun", "[I", true)
  | 27 => ("ParallelUndoModel", "seenCall", "I", false)
  | 28 => ("ParallelUndoModel", "seenRun", "I", false)
  | 29 => ("ParallelUndoModel", "seenPerhaps", "Z", false)
  | 30 => ("ParallelUndoModel", "seenValue", "J", false)
  | 31 => ("ParallelUndoModel", "how", "[I", true)
  | 32 => ("ParallelUndoModel", "runOf", "[I", true)
  | 33 => ("ParallelUndoModel", "waitsFor", "[I", true)
  | 34 => ("ParallelUndoModel", "task", "[I", true)
  | 35 => ("ParallelUndoModel", "taskCall", "[I", true)
  | 36 => ("ParallelUndoModel", "taskRun", "[I", true)
  | 37 => ("ParallelUndoModel", "nextRun", "I", false)
  | 38 => ("ParallelUndoModel", "nextLook", "I", false)
  | 39 => ("ParallelUndoModel", "ran", "I", false)
  | 40 => ("ParallelUndoModel", "turns", "I", false)
  | 41 => ("ParallelUndoModel", "fell", "Z", false)
  | 42 => ("ParallelUndoModel", "looks", "I", false)
  | 43 => ("ParallelUndoModel", "undone", "I", false)
  | 44 => ("ParallelUndoModel", "givenUp", "I", false)
  | 45 => ("ParallelUndoModel", "groups", "I", false)
  | 46 => ("ParallelUndoModel", "group", "[I", true)
  | 47 => ("ParallelUndoModel", "conflictCount", "I", false)
  | 48 => ("ParallelUndoModel", "conflictCall", "[I", true)
  | 49 => ("ParallelUndoModel", "conflictOther", "[I", true)
  | 50 => ("ParallelUndoModel", "eventAll", "I", false)
  | 51 => ("ParallelUndoModel", "allEvents", "[J", true)
  | 52 => ("ParallelUndoModel", "allEventCalls", "[I", true)
  | 53 => ("ParallelUndoModel", "lastFailed", "[Z", true)
  | 54 => ("ParallelUndoModel", "lastSaw", "[I", true)
  | 55 => ("ParallelUndoModel", "lastWrote", "[I", true)
  | 56 => ("ParallelUndoModel", "lastDid", "[I", true)
  | 57 => ("ParallelUndoModel", "lastBegan", "[I", true)
  | 58 => ("ParallelUndoModel", "plain", "[J", true)
  | 59 => ("ParallelUndoModel", "plainOwn", "[J", true)
  | _ => ("ParallelUndoModel", "plainRegister", "[J", true)
def tyX8 : Nat → FieldType := fun k => match k with
  | 0 => .array .long
  | 1 => .int
  | 2 => .int
  | 3 => .array .int
  | 4 => .array .int
  | 5 => .array .int
  | 6 => .array .int
  | 7 => .array .long
  | 8 => .array .int
  | 9 => .array .long
  | 10 => .array .boolean
  | 11 => .array .boolean
  | 12 => .array .long
  | 13 => .array .int
  | 14 => .array .int
  | 15 => .array .int
  | 16 => .array .int
  | 17 => .array .long
  | 18 => .array .int
  | 19 => .array .long
  | 20 => .array .int
  | 21 => .array .int
  | 22 => .int
  | 23 => .array .boolean
  | 24 => .array .boolean
  | 25 => .array .long
  | 26 => .array .int
  | 27 => .int
  | 28 => .int
  | 29 => .boolean
  | 30 => .long
  | 31 => .array .int
  | 32 => .array .int
  | 33 => .array .int
  | 34 => .array .int
  | 35 => .array .int
  | 36 => .array .int
  | 37 => .int
  | 38 => .int
  | 39 => .int
  | 40 => .int
  | 41 => .boolean
  | 42 => .int
  | 43 => .int
  | 44 => .int
  | 45 => .int
  | 46 => .array .int
  | 47 => .int
  | 48 => .array .int
  | 49 => .array .int
  | 50 => .int
  | 51 => .array .long
  | 52 => .array .int
  | 53 => .array .boolean
  | 54 => .array .int
  | 55 => .array .int
  | 56 => .array .int
  | 57 => .array .int
  | 58 => .array .long
  | 59 => .array .long
  | _ => .array .long
abbrev wsX80 : List Cond := u_ws RX8 TX8 61
theorem nmX8 : ∀ a, a < 61 → ∀ b, b < 61 → a ≠ b → (TX8 a).2.1 ≠ (TX8 b).2.1 := by decide +kernel
theorem tyX8_ok : ∀ k, k < 61 → parseFieldDescriptor (TX8 k).2.2.1 = some (tyX8 k) := by decide +kernel
abbrev cX8_init : ByteArray := prog_10_method_1_code
def yX8_init : MethodName := ⟨RX8, "<init>", "()V"⟩
abbrev cX8_call : ByteArray := prog_10_method_3_code
def yX8_call : MethodName := ⟨RX8, "call", "()I"⟩
abbrev cX8_act : ByteArray := prog_10_method_4_code
def yX8_act : MethodName := ⟨RX8, "act", "(IIIIJ)I"⟩
abbrev cX8_clear : ByteArray := prog_10_method_5_code
def yX8_clear : MethodName := ⟨RX8, "clear", "()I"⟩
abbrev cX8_leaf : ByteArray := prog_10_method_6_code
def yX8_leaf : MethodName := ⟨RX8, "leaf", "(IJ)Z"⟩
abbrev cX8_bound : ByteArray := prog_10_method_7_code
def yX8_bound : MethodName := ⟨RX8, "bound", "(I)Z"⟩
abbrev cX8_begin : ByteArray := prog_10_method_8_code
def yX8_begin : MethodName := ⟨RX8, "begin", "(I)V"⟩
abbrev cX8_see : ByteArray := prog_10_method_9_code
def yX8_see : MethodName := ⟨RX8, "see", "(II)V"⟩
abbrev cX8_leafOf : ByteArray := prog_10_method_10_code
def yX8_leafOf : MethodName := ⟨RX8, "leafOf", "(J)I"⟩
abbrev cX8_doAct : ByteArray := prog_10_method_11_code
def yX8_doAct : MethodName := ⟨RX8, "doAct", "(I)I"⟩
abbrev cX8_isOver : ByteArray := prog_10_method_12_code
def yX8_isOver : MethodName := ⟨RX8, "isOver", "(I)Z"⟩
abbrev cX8_conflict0 : ByteArray := prog_10_method_13_code
def yX8_conflict0 : MethodName := ⟨RX8, "conflict0", "(II)V"⟩
abbrev cX8_run : ByteArray := prog_10_method_14_code
def yX8_run : MethodName := ⟨RX8, "run", "(II)I"⟩
abbrev cX8_isDone : ByteArray := prog_10_method_15_code
def yX8_isDone : MethodName := ⟨RX8, "isDone", "(I)Z"⟩
abbrev cX8_step : ByteArray := prog_10_method_16_code
def yX8_step : MethodName := ⟨RX8, "step", "(I)V"⟩
abbrev cX8_toLook : ByteArray := prog_10_method_17_code
def yX8_toLook : MethodName := ⟨RX8, "toLook", "(II)V"⟩
abbrev cX8_toRun : ByteArray := prog_10_method_18_code
def yX8_toRun : MethodName := ⟨RX8, "toRun", "(II)V"⟩
abbrev cX8_runStep : ByteArray := prog_10_method_19_code
def yX8_runStep : MethodName := ⟨RX8, "runStep", "(I)V"⟩
abbrev cX8_ends : ByteArray := prog_10_method_20_code
def yX8_ends : MethodName := ⟨RX8, "ends", "(II)V"⟩
abbrev cX8_lookStep : ByteArray := prog_10_method_21_code
def yX8_lookStep : MethodName := ⟨RX8, "lookStep", "(I)V"⟩
abbrev cX8_allInOrder : ByteArray := prog_10_method_22_code
def yX8_allInOrder : MethodName := ⟨RX8, "allInOrder", "()V"⟩
abbrev cX8_rootOf : ByteArray := prog_10_method_23_code
def yX8_rootOf : MethodName := ⟨RX8, "rootOf", "(I)I"⟩
abbrev cX8_touches : ByteArray := prog_10_method_24_code
def yX8_touches : MethodName := ⟨RX8, "touches", "(II)Z"⟩
abbrev cX8_settle : ByteArray := prog_10_method_25_code
def yX8_settle : MethodName := ⟨RX8, "settle", "()V"⟩
abbrev cX8_at : ByteArray := prog_10_method_26_code
def yX8_at : MethodName := ⟨RX8, "at", "(I)J"⟩
abbrev cX8_inOrder : ByteArray := prog_10_method_27_code
def yX8_inOrder : MethodName := ⟨RX8, "inOrder", "(I)J"⟩
abbrev cX8_events : ByteArray := prog_10_method_28_code
def yX8_events : MethodName := ⟨RX8, "events", "()I"⟩
abbrev cX8_event : ByteArray := prog_10_method_29_code
def yX8_event : MethodName := ⟨RX8, "event", "(II)J"⟩
abbrev cX8_of : ByteArray := prog_10_method_30_code
def yX8_of : MethodName := ⟨RX8, "of", "(II)I"⟩
abbrev cX8_conflicts : ByteArray := prog_10_method_31_code
def yX8_conflicts : MethodName := ⟨RX8, "conflicts", "()I"⟩
abbrev cX8_conflict : ByteArray := prog_10_method_32_code
def yX8_conflict : MethodName := ⟨RX8, "conflict", "(II)I"⟩
abbrev cX8_told : ByteArray := prog_10_method_33_code
def yX8_told : MethodName := ⟨RX8, "told", "(I)I"⟩
def RJ6 : String := "java/lang/Integer"
def TJ6 : u_T := fun k => match k with
  | _ => ("", "", "", false)
def tyJ6 : Nat → FieldType := fun k => match k with
  | _ => .int
abbrev wsJ60 : List Cond := u_ws RJ6 TJ6 0
theorem nmJ6 : ∀ a, a < 0 → ∀ b, b < 0 → a ≠ b → (TJ6 a).2.1 ≠ (TJ6 b).2.1 := by decide +kernel
theorem tyJ6_ok : ∀ k, k < 0 → parseFieldDescriptor (TJ6 k).2.2.1 = some (tyJ6 k) := by decide +kernel
abbrev cJ6_bitCount_0f7a4 : ByteArray := prog_11_method_49_code
def yJ6_bitCount_0f7a4 : MethodName := ⟨RJ6, "bitCount", "(I)I"⟩
def RJ9 : String := "java/lang/Math"
def TJ9 : u_T := fun k => match k with
  | _ => ("", "", "", false)
def tyJ9 : Nat → FieldType := fun k => match k with
  | _ => .int
abbrev wsJ90 : List Cond := u_ws RJ9 TJ9 0
theorem nmJ9 : ∀ a, a < 0 → ∀ b, b < 0 → a ≠ b → (TJ9 a).2.1 ≠ (TJ9 b).2.1 := by decide +kernel
theorem tyJ9_ok : ∀ k, k < 0 → parseFieldDescriptor (TJ9 k).2.2.1 = some (tyJ9 k) := by decide +kernel
abbrev cJ9_min_7cf53 : ByteArray := prog_12_method_69_code
def yJ9_min_7cf53 : MethodName := ⟨RJ9, "min", "(II)I"⟩
def RJ10 : String := "java/lang/System"
def TJ10 : u_T := fun k => match k with
  | _ => ("", "", "", false)
def tyJ10 : Nat → FieldType := fun k => match k with
  | _ => .int
abbrev wsJ100 : List Cond := u_ws RJ10 TJ10 0
theorem nmJ10 : ∀ a, a < 0 → ∀ b, b < 0 → a ≠ b → (TJ10 a).2.1 ≠ (TJ10 b).2.1 := by decide +kernel
theorem tyJ10_ok : ∀ k, k < 0 → parseFieldDescriptor (TJ10 k).2.2.1 = some (tyJ10 k) := by decide +kernel
def RJ7 : String := "java/util/Arrays"
def TJ7 : u_T := fun k => match k with
  | _ => ("", "", "", false)
def tyJ7 : Nat → FieldType := fun k => match k with
  | _ => .int
abbrev wsJ70 : List Cond := u_ws RJ7 TJ7 0
theorem nmJ7 : ∀ a, a < 0 → ∀ b, b < 0 → a ≠ b → (TJ7 a).2.1 ≠ (TJ7 b).2.1 := by decide +kernel
theorem tyJ7_ok : ∀ k, k < 0 → parseFieldDescriptor (TJ7 k).2.2.1 = some (tyJ7 k) := by decide +kernel
abbrev cJ7_fill_d0a16 : ByteArray := prog_14_method_101_code
def yJ7_fill_d0a16 : MethodName := ⟨RJ7, "fill", "([JJ)V"⟩
abbrev cJ7_fill_53178 : ByteArray := prog_14_method_103_code
def yJ7_fill_53178 : MethodName := ⟨RJ7, "fill", "([II)V"⟩
def RL : String := "ParallelUndoLaw"
abbrev cL_law : ByteArray := code
def yL_law : MethodName := ⟨RL, "law", "([I)Z"⟩
def wsX0_init : List Cond := .code yX0_init cX0_init 2 none :: ([.methodLink RX0 3 objectInit, .instanceMethod objectInit, .code objectInit ⟨#[0xb1]⟩ 1 none, .arrayClass .long, .fieldLink RX0 9 "ParallelUndo$Attempt" "written" "[J", .fieldLink RX0 15 "ParallelUndo$Attempt" "eventValue" "[J", .fieldLink RX0 18 "ParallelUndo$Attempt" "register" "[J", .fieldLink RX0 21 "ParallelUndo$Attempt" "keptValue" "[J", .arrayClass .int, .fieldLink RX0 24 "ParallelUndo$Attempt" "keptLeaf" "[I", .fieldLink RX0 28 "ParallelUndo$Attempt" "keptWriter" "[I", .fieldLink RX0 31 "ParallelUndo$Attempt" "keptNumber" "[I", .fieldLink RX0 34 "ParallelUndo$Attempt" "self" "I"] ++ wsX00)
def wsX0_open : List Cond := .code yX0_open cX0_open 1 none :: ([.fieldLink RX0 38 "ParallelUndo$Attempt" "began" "I", .fieldLink RX0 41 "ParallelUndo$Attempt" "doneInAll" "I"] ++ wsX00)
def wsJ7_fill_d0a16 : List Cond := .code yJ7_fill_d0a16 cJ7_fill_d0a16 5 none :: ([])
def wsX0_begin : List Cond := .code yX0_begin cX0_begin 1 none :: ([.fieldLink RX0 38 "ParallelUndo$Attempt" "began" "I", .fieldLink RX0 44 "ParallelUndo$Attempt" "next" "I", .fieldLink RX0 47 "ParallelUndo$Attempt" "done" "I", .fieldLink RX0 50 "ParallelUndo$Attempt" "failed" "Z", .fieldLink RX0 54 "ParallelUndo$Attempt" "kept" "I", .fieldLink RX0 57 "ParallelUndo$Attempt" "keptMask" "I", .fieldLink RX0 60 "ParallelUndo$Attempt" "writtenMask" "I", .fieldLink RX0 63 "ParallelUndo$Attempt" "eventCount" "I", .fieldLink RX0 18 "ParallelUndo$Attempt" "register" "[J", .methodLink RX0 66 yJ7_fill_d0a16, .static yJ7_fill_d0a16, .initialized RJ7, .code yJ7_fill_d0a16 cJ7_fill_d0a16 5 none] ++ wsX00)
def wsX2_hasAct : List Cond := .code yX2_hasAct cX2_hasAct 3 (some .boolean) :: ([.fieldLink RX2 28 "ParallelUndo$Block" "calls" "I", .fieldLink RX2 9 "ParallelUndo$Block" "acts" "[I"] ++ wsX20)
def wsX0_isOver : List Cond := .code yX0_isOver cX0_isOver 2 (some .boolean) :: ([.fieldLink RX0 50 "ParallelUndo$Attempt" "failed" "Z", .fieldLink RX0 34 "ParallelUndo$Attempt" "self" "I", .fieldLink RX0 44 "ParallelUndo$Attempt" "next" "I", .methodLink RX0 72 yX2_hasAct, .instanceMethod yX2_hasAct, .selects RX2 yX2_hasAct yX2_hasAct, .initialized RX2, .code yX2_hasAct cX2_hasAct 3 (some .boolean), .fieldLink RX2 28 "ParallelUndo$Block" "calls" "I", .fieldLink RX2 9 "ParallelUndo$Block" "acts" "[I"] ++ wsX00 ++ wsX20)
def wsX0_hasWritten : List Cond := .code yX0_hasWritten cX0_hasWritten 2 (some .boolean) :: ([.fieldLink RX0 60 "ParallelUndo$Attempt" "writtenMask" "I"] ++ wsX00)
def wsJ6_bitCount_0f7a4 : List Cond := .code yJ6_bitCount_0f7a4 cJ6_bitCount_0f7a4 1 (some .int) :: ([.constant RJ6 265 (1431655765), .constant RJ6 266 (858993459), .constant RJ6 267 (252645135)])
def wsX0_countWritten : List Cond := .code yX0_countWritten cX0_countWritten 1 (some .int) :: ([.fieldLink RX0 60 "ParallelUndo$Attempt" "writtenMask" "I", .methodLink RX0 78 yJ6_bitCount_0f7a4, .static yJ6_bitCount_0f7a4, .initialized RJ6, .code yJ6_bitCount_0f7a4 cJ6_bitCount_0f7a4 1 (some .int), .constant RJ6 265 (1431655765), .constant RJ6 266 (858993459), .constant RJ6 267 (252645135)] ++ wsX00)
def wsX0_touched : List Cond := .code yX0_touched cX0_touched 2 (some .boolean) :: ([.fieldLink RX0 57 "ParallelUndo$Attempt" "keptMask" "I", .fieldLink RX0 60 "ParallelUndo$Attempt" "writtenMask" "I"] ++ wsX00)
def wsX0_leafAt : List Cond := .code yX0_leafAt cX0_leafAt 4 (some .int) :: ([.fieldLink RX0 18 "ParallelUndo$Attempt" "register" "[J", .constantLong RX0 114 (31)] ++ wsX00)
def wsX5_writerBelow : List Cond := .code yX5_writerBelow cX5_writerBelow 4 (some .int) :: ([.fieldLink RX5 15 "ParallelUndo$Table" "state" "[I"] ++ wsX50)
def wsX5_isPerhaps : List Cond := .code yX5_isPerhaps cX5_isPerhaps 3 (some .boolean) :: ([.fieldLink RX5 15 "ParallelUndo$Table" "state" "[I"] ++ wsX50)
def wsX5_numberOf : List Cond := .code yX5_numberOf cX5_numberOf 3 (some .int) :: ([.fieldLink RX5 19 "ParallelUndo$Table" "number" "[I"] ++ wsX50)
def wsX5_valueOf : List Cond := .code yX5_valueOf cX5_valueOf 3 (some .long) :: ([.fieldLink RX5 9 "ParallelUndo$Table" "before" "[J", .fieldLink RX5 22 "ParallelUndo$Table" "value" "[J"] ++ wsX50)
def wsX0_keep : List Cond := .code yX0_keep cX0_keep 6 none :: ([.fieldLink RX0 54 "ParallelUndo$Attempt" "kept" "I", .fieldLink RX0 24 "ParallelUndo$Attempt" "keptLeaf" "[I", .fieldLink RX0 28 "ParallelUndo$Attempt" "keptWriter" "[I", .fieldLink RX0 31 "ParallelUndo$Attempt" "keptNumber" "[I", .fieldLink RX0 21 "ParallelUndo$Attempt" "keptValue" "[J", .fieldLink RX0 57 "ParallelUndo$Attempt" "keptMask" "I"] ++ wsX00)
def wsX0_read_r1 : List Cond := [Cond.fieldLink RX0 18 "ParallelUndo$Attempt" "register" "[J", Cond.fieldLink RX0 9 "ParallelUndo$Attempt" "written" "[J", Cond.fieldLink RX0 57 "ParallelUndo$Attempt" "keptMask" "I", Cond.fieldLink RX0 34 "ParallelUndo$Attempt" "self" "I", Cond.fieldLink RX0 21 "ParallelUndo$Attempt" "keptValue" "[J", Cond.methodLink RX0 116 yX0_hasWritten, Cond.instanceMethod yX0_hasWritten, Cond.selects RX0 yX0_hasWritten yX0_hasWritten, Cond.initialized RX0, Cond.code yX0_hasWritten cX0_hasWritten 2 (some .boolean), Cond.fieldLink RX0 60 "ParallelUndo$Attempt" "writtenMask" "I", Cond.methodLink RX0 120 yX5_writerBelow, Cond.instanceMethod yX5_writerBelow, Cond.selects RX5 yX5_writerBelow yX5_writerBelow, Cond.initialized RX5, Cond.code yX5_writerBelow cX5_writerBelow 4 (some .int), Cond.fieldLink RX5 15 "ParallelUndo$Table" "state" "[I", Cond.methodLink RX0 126 yX5_isPerhaps, Cond.instanceMethod yX5_isPerhaps, Cond.selects RX5 yX5_isPerhaps yX5_isPerhaps, Cond.code yX5_isPerhaps cX5_isPerhaps 3 (some .boolean), Cond.methodLink RX0 129 yX5_numberOf, Cond.instanceMethod yX5_numberOf, Cond.selects RX5 yX5_numberOf yX5_numberOf]
def wsX0_read_r2 : List Cond := [Cond.code yX5_numberOf cX5_numberOf 3 (some .int), Cond.fieldLink RX5 19 "ParallelUndo$Table" "number" "[I", Cond.methodLink RX0 132 yX5_valueOf, Cond.instanceMethod yX5_valueOf, Cond.selects RX5 yX5_valueOf yX5_valueOf, Cond.code yX5_valueOf cX5_valueOf 3 (some .long), Cond.fieldLink RX5 9 "ParallelUndo$Table" "before" "[J", Cond.fieldLink RX5 22 "ParallelUndo$Table" "value" "[J", Cond.methodLink RX0 136 yX0_keep, Cond.instanceMethod yX0_keep, Cond.selects RX0 yX0_keep yX0_keep, Cond.code yX0_keep cX0_keep 6 none, Cond.fieldLink RX0 54 "ParallelUndo$Attempt" "kept" "I", Cond.fieldLink RX0 24 "ParallelUndo$Attempt" "keptLeaf" "[I", Cond.fieldLink RX0 28 "ParallelUndo$Attempt" "keptWriter" "[I", Cond.fieldLink RX0 31 "ParallelUndo$Attempt" "keptNumber" "[I"]
def wsX0_read : List Cond := .code yX0_read cX0_read 5 (some .int) :: ((wsX0_read_r1 ++ wsX0_read_r2) ++ wsX00 ++ wsX50)
def wsX0_write : List Cond := .code yX0_write cX0_write 4 none :: ([.fieldLink RX0 9 "ParallelUndo$Attempt" "written" "[J", .fieldLink RX0 60 "ParallelUndo$Attempt" "writtenMask" "I"] ++ wsX00)
def wsX0_raise : List Cond := .code yX0_raise cX0_raise 3 none :: ([.fieldLink RX0 63 "ParallelUndo$Attempt" "eventCount" "I", .fieldLink RX0 15 "ParallelUndo$Attempt" "eventValue" "[J"] ++ wsX00)
def wsX0_fail : List Cond := .code yX0_fail cX0_fail 1 none :: ([.fieldLink RX0 50 "ParallelUndo$Attempt" "failed" "Z", .fieldLink RX0 60 "ParallelUndo$Attempt" "writtenMask" "I", .fieldLink RX0 63 "ParallelUndo$Attempt" "eventCount" "I"] ++ wsX00)
def wsX0_perform_r1 : List Cond := [Cond.fieldLink RX0 18 "ParallelUndo$Attempt" "register" "[J", Cond.fieldLink RX0 44 "ParallelUndo$Attempt" "next" "I", Cond.methodLink RX0 102 yX0_leafAt, Cond.instanceMethod yX0_leafAt, Cond.selects RX0 yX0_leafAt yX0_leafAt, Cond.initialized RX0, Cond.code yX0_leafAt cX0_leafAt 4 (some .int), Cond.constantLong RX0 114 (31), Cond.methodLink RX0 139 yX0_write, Cond.instanceMethod yX0_write, Cond.selects RX0 yX0_write yX0_write, Cond.code yX0_write cX0_write 4 none, Cond.fieldLink RX0 9 "ParallelUndo$Attempt" "written" "[J", Cond.fieldLink RX0 60 "ParallelUndo$Attempt" "writtenMask" "I", Cond.methodLink RX0 143 yX0_raise, Cond.instanceMethod yX0_raise, Cond.selects RX0 yX0_raise yX0_raise, Cond.code yX0_raise cX0_raise 3 none, Cond.fieldLink RX0 63 "ParallelUndo$Attempt" "eventCount" "I", Cond.fieldLink RX0 15 "ParallelUndo$Attempt" "eventValue" "[J", Cond.methodLink RX0 147 yX0_fail, Cond.instanceMethod yX0_fail, Cond.selects RX0 yX0_fail yX0_fail, Cond.code yX0_fail cX0_fail 1 none]
def wsX0_perform_r2 : List Cond := [Cond.fieldLink RX0 50 "ParallelUndo$Attempt" "failed" "Z"]
def wsX0_perform : List Cond := .code yX0_perform cX0_perform 6 none :: ((wsX0_perform_r1 ++ wsX0_perform_r2) ++ wsX00)
def wsX0_doNext_r1 : List Cond := [Cond.fieldLink RX0 34 "ParallelUndo$Attempt" "self" "I", Cond.fieldLink RX0 44 "ParallelUndo$Attempt" "next" "I", Cond.fieldLink RX0 88 "ParallelUndo$Block" "kind" "[I", Cond.fieldLink RX0 91 "ParallelUndo$Block" "first" "[I", Cond.fieldLink RX0 94 "ParallelUndo$Block" "second" "[I", Cond.fieldLink RX0 97 "ParallelUndo$Block" "value" "[J", Cond.fieldLink RX0 47 "ParallelUndo$Attempt" "done" "I", Cond.fieldLink RX0 41 "ParallelUndo$Attempt" "doneInAll" "I", Cond.methodLink RX0 84 yX0_isOver, Cond.instanceMethod yX0_isOver, Cond.selects RX0 yX0_isOver yX0_isOver, Cond.initialized RX0, Cond.code yX0_isOver cX0_isOver 2 (some .boolean), Cond.fieldLink RX0 50 "ParallelUndo$Attempt" "failed" "Z", Cond.methodLink RX0 72 yX2_hasAct, Cond.instanceMethod yX2_hasAct, Cond.selects RX2 yX2_hasAct yX2_hasAct, Cond.initialized RX2, Cond.code yX2_hasAct cX2_hasAct 3 (some .boolean), Cond.fieldLink RX2 28 "ParallelUndo$Block" "calls" "I", Cond.fieldLink RX2 9 "ParallelUndo$Block" "acts" "[I", Cond.methodLink RX0 102 yX0_leafAt, Cond.instanceMethod yX0_leafAt, Cond.selects RX0 yX0_leafAt yX0_leafAt]
def wsX0_doNext_r2 : List Cond := [Cond.code yX0_leafAt cX0_leafAt 4 (some .int), Cond.fieldLink RX0 18 "ParallelUndo$Attempt" "register" "[J", Cond.constantLong RX0 114 (31), Cond.methodLink RX0 106 yX0_read, Cond.instanceMethod yX0_read, Cond.selects RX0 yX0_read yX0_read, Cond.code yX0_read cX0_read 5 (some .int), Cond.fieldLink RX0 9 "ParallelUndo$Attempt" "written" "[J", Cond.fieldLink RX0 57 "ParallelUndo$Attempt" "keptMask" "I", Cond.fieldLink RX0 21 "ParallelUndo$Attempt" "keptValue" "[J", Cond.methodLink RX0 116 yX0_hasWritten, Cond.instanceMethod yX0_hasWritten, Cond.selects RX0 yX0_hasWritten yX0_hasWritten, Cond.code yX0_hasWritten cX0_hasWritten 2 (some .boolean), Cond.fieldLink RX0 60 "ParallelUndo$Attempt" "writtenMask" "I", Cond.methodLink RX0 120 yX5_writerBelow, Cond.instanceMethod yX5_writerBelow, Cond.selects RX5 yX5_writerBelow yX5_writerBelow, Cond.initialized RX5, Cond.code yX5_writerBelow cX5_writerBelow 4 (some .int), Cond.fieldLink RX5 15 "ParallelUndo$Table" "state" "[I", Cond.methodLink RX0 126 yX5_isPerhaps, Cond.instanceMethod yX5_isPerhaps, Cond.selects RX5 yX5_isPerhaps yX5_isPerhaps]
def wsX0_doNext_r3 : List Cond := [Cond.code yX5_isPerhaps cX5_isPerhaps 3 (some .boolean), Cond.methodLink RX0 129 yX5_numberOf, Cond.instanceMethod yX5_numberOf, Cond.selects RX5 yX5_numberOf yX5_numberOf, Cond.code yX5_numberOf cX5_numberOf 3 (some .int), Cond.fieldLink RX5 19 "ParallelUndo$Table" "number" "[I", Cond.methodLink RX0 132 yX5_valueOf, Cond.instanceMethod yX5_valueOf, Cond.selects RX5 yX5_valueOf yX5_valueOf, Cond.code yX5_valueOf cX5_valueOf 3 (some .long), Cond.fieldLink RX5 9 "ParallelUndo$Table" "before" "[J", Cond.fieldLink RX5 22 "ParallelUndo$Table" "value" "[J", Cond.methodLink RX0 136 yX0_keep, Cond.instanceMethod yX0_keep, Cond.selects RX0 yX0_keep yX0_keep, Cond.code yX0_keep cX0_keep 6 none, Cond.fieldLink RX0 54 "ParallelUndo$Attempt" "kept" "I", Cond.fieldLink RX0 24 "ParallelUndo$Attempt" "keptLeaf" "[I", Cond.fieldLink RX0 28 "ParallelUndo$Attempt" "keptWriter" "[I", Cond.fieldLink RX0 31 "ParallelUndo$Attempt" "keptNumber" "[I", Cond.methodLink RX0 110 yX0_perform, Cond.instanceMethod yX0_perform, Cond.selects RX0 yX0_perform yX0_perform, Cond.code yX0_perform cX0_perform 6 none]
def wsX0_doNext_r4 : List Cond := [Cond.methodLink RX0 139 yX0_write, Cond.instanceMethod yX0_write, Cond.selects RX0 yX0_write yX0_write, Cond.code yX0_write cX0_write 4 none, Cond.methodLink RX0 143 yX0_raise, Cond.instanceMethod yX0_raise, Cond.selects RX0 yX0_raise yX0_raise, Cond.code yX0_raise cX0_raise 3 none, Cond.fieldLink RX0 63 "ParallelUndo$Attempt" "eventCount" "I", Cond.fieldLink RX0 15 "ParallelUndo$Attempt" "eventValue" "[J", Cond.methodLink RX0 147 yX0_fail, Cond.instanceMethod yX0_fail, Cond.selects RX0 yX0_fail yX0_fail, Cond.code yX0_fail cX0_fail 1 none]
def wsX0_doNext : List Cond := .code yX0_doNext cX0_doNext 10 (some .int) :: ((wsX0_doNext_r1 ++ (wsX0_doNext_r2 ++ (wsX0_doNext_r3 ++ wsX0_doNext_r4))) ++ wsX00 ++ wsX20 ++ wsX50)
def wsX0_firstChanged : List Cond := .code yX0_firstChanged cX0_firstChanged 5 (some .int) :: ([.fieldLink RX0 54 "ParallelUndo$Attempt" "kept" "I", .fieldLink RX0 24 "ParallelUndo$Attempt" "keptLeaf" "[I", .fieldLink RX0 34 "ParallelUndo$Attempt" "self" "I", .fieldLink RX0 28 "ParallelUndo$Attempt" "keptWriter" "[I", .fieldLink RX0 31 "ParallelUndo$Attempt" "keptNumber" "[I", .methodLink RX0 120 yX5_writerBelow, .instanceMethod yX5_writerBelow, .selects RX5 yX5_writerBelow yX5_writerBelow, .initialized RX5, .code yX5_writerBelow cX5_writerBelow 4 (some .int), .fieldLink RX5 15 "ParallelUndo$Table" "state" "[I", .methodLink RX0 126 yX5_isPerhaps, .instanceMethod yX5_isPerhaps, .selects RX5 yX5_isPerhaps yX5_isPerhaps, .code yX5_isPerhaps cX5_isPerhaps 3 (some .boolean), .methodLink RX0 129 yX5_numberOf, .instanceMethod yX5_numberOf, .selects RX5 yX5_numberOf yX5_numberOf, .code yX5_numberOf cX5_numberOf 3 (some .int), .fieldLink RX5 19 "ParallelUndo$Table" "number" "[I"] ++ wsX00 ++ wsX50)
def wsX5_init : List Cond := .code yX5_init cX5_init 1 none :: ([.methodLink RX5 3 objectInit, .instanceMethod objectInit, .code objectInit ⟨#[0xb1]⟩ 1 none, .arrayClass .long, .fieldLink RX5 9 "ParallelUndo$Table" "before" "[J", .arrayClass .int, .fieldLink RX5 15 "ParallelUndo$Table" "state" "[I", .fieldLink RX5 19 "ParallelUndo$Table" "number" "[I", .fieldLink RX5 22 "ParallelUndo$Table" "value" "[J"] ++ wsX50)
def wsX1_init_r1 : List Cond := [Cond.methodLink RX1 3 objectInit, Cond.instanceMethod objectInit, Cond.code objectInit ⟨#[0xb1]⟩ 1 none, Cond.classLink RX1 9 RX5, Cond.instantiable RX5 4, Cond.initialized RX5, Cond.fieldLink RX1 12 "ParallelUndo$Bench" "table" "LParallelUndo$Table;", Cond.classLink RX1 18 RX0, Cond.fieldLink RX1 20 "ParallelUndo$Bench" "attempts" "[LParallelUndo$Attempt;", Cond.instantiable RX0 18, Cond.initialized RX0, Cond.instanceMethod yX5_init, Cond.code yX5_init cX5_init 1 none, Cond.methodLink RX5 3 objectInit, Cond.arrayClass .long, Cond.fieldLink RX5 9 "ParallelUndo$Table" "before" "[J", Cond.arrayClass .int, Cond.fieldLink RX5 15 "ParallelUndo$Table" "state" "[I", Cond.fieldLink RX5 19 "ParallelUndo$Table" "number" "[I", Cond.fieldLink RX5 22 "ParallelUndo$Table" "value" "[J", Cond.methodLink RX1 24 yX0_init, Cond.instanceMethod yX0_init, Cond.code yX0_init cX0_init 2 none, Cond.methodLink RX0 3 objectInit]
def wsX1_init_r2 : List Cond := [Cond.fieldLink RX0 9 "ParallelUndo$Attempt" "written" "[J", Cond.fieldLink RX0 15 "ParallelUndo$Attempt" "eventValue" "[J", Cond.fieldLink RX0 18 "ParallelUndo$Attempt" "register" "[J", Cond.fieldLink RX0 21 "ParallelUndo$Attempt" "keptValue" "[J", Cond.fieldLink RX0 24 "ParallelUndo$Attempt" "keptLeaf" "[I", Cond.fieldLink RX0 28 "ParallelUndo$Attempt" "keptWriter" "[I", Cond.fieldLink RX0 31 "ParallelUndo$Attempt" "keptNumber" "[I", Cond.fieldLink RX0 34 "ParallelUndo$Attempt" "self" "I"]
def wsX1_init : List Cond := .code yX1_init cX1_init 2 none :: ((wsX1_init_r1 ++ wsX1_init_r2) ++ wsX50 ++ wsX10 ++ wsX00)
def wsJ7_fill_53178 : List Cond := .code yJ7_fill_53178 cJ7_fill_53178 4 none :: ([])
def wsX5_open : List Cond := .code yX5_open cX5_open 2 none :: ([.fieldLink RX5 9 "ParallelUndo$Table" "before" "[J", .methodLink RX5 25 arraycopyName, .native arraycopyName, .static arraycopyName, .initialized "java/lang/System", .fieldLink RX5 15 "ParallelUndo$Table" "state" "[I", .methodLink RX5 31 yJ7_fill_53178, .static yJ7_fill_53178, .initialized RJ7, .code yJ7_fill_53178 cJ7_fill_53178 4 none] ++ wsX50)
def wsX1_open_r1 : List Cond := [Cond.fieldLink RX1 27 "ParallelUndo$Block" "calls" "I", Cond.fieldLink RX1 33 "ParallelUndo$Bench" "calls" "I", Cond.fieldLink RX1 12 "ParallelUndo$Bench" "table" "LParallelUndo$Table;", Cond.fieldLink RX1 20 "ParallelUndo$Bench" "attempts" "[LParallelUndo$Attempt;", Cond.methodLink RX1 34 yX5_open, Cond.instanceMethod yX5_open, Cond.selects RX5 yX5_open yX5_open, Cond.initialized RX5, Cond.code yX5_open cX5_open 2 none, Cond.fieldLink RX5 9 "ParallelUndo$Table" "before" "[J", Cond.methodLink RX5 25 arraycopyName, Cond.native arraycopyName, Cond.static arraycopyName, Cond.initialized "java/lang/System", Cond.fieldLink RX5 15 "ParallelUndo$Table" "state" "[I", Cond.methodLink RX5 31 yJ7_fill_53178, Cond.static yJ7_fill_53178, Cond.initialized RJ7, Cond.code yJ7_fill_53178 cJ7_fill_53178 4 none, Cond.methodLink RX1 38 yX0_open, Cond.instanceMethod yX0_open, Cond.selects RX0 yX0_open yX0_open, Cond.initialized RX0, Cond.code yX0_open cX0_open 1 none]
def wsX1_open_r2 : List Cond := [Cond.fieldLink RX0 38 "ParallelUndo$Attempt" "began" "I", Cond.fieldLink RX0 41 "ParallelUndo$Attempt" "doneInAll" "I"]
def wsX1_open : List Cond := .code yX1_open cX1_open 4 none :: ((wsX1_open_r1 ++ wsX1_open_r2) ++ wsX20 ++ wsX10 ++ wsX50 ++ wsX00)
def wsX5_publish : List Cond := .code yX5_publish cX5_publish 6 (some .boolean) :: ([.fieldLink RX5 45 "ParallelUndo$Attempt" "self" "I", .fieldLink RX5 15 "ParallelUndo$Table" "state" "[I", .fieldLink RX5 19 "ParallelUndo$Table" "number" "[I", .fieldLink RX5 22 "ParallelUndo$Table" "value" "[J", .fieldLink RX5 55 "ParallelUndo$Attempt" "written" "[J", .methodLink RX5 51 yX0_hasWritten, .instanceMethod yX0_hasWritten, .selects RX0 yX0_hasWritten yX0_hasWritten, .initialized RX0, .code yX0_hasWritten cX0_hasWritten 2 (some .boolean), .fieldLink RX0 60 "ParallelUndo$Attempt" "writtenMask" "I"] ++ wsX00 ++ wsX50)
def wsX1_runOneByOne_r1 : List Cond := [Cond.fieldLink RX1 33 "ParallelUndo$Bench" "calls" "I", Cond.fieldLink RX1 20 "ParallelUndo$Bench" "attempts" "[LParallelUndo$Attempt;", Cond.fieldLink RX1 12 "ParallelUndo$Bench" "table" "LParallelUndo$Table;", Cond.methodLink RX1 40 yX0_begin, Cond.instanceMethod yX0_begin, Cond.selects RX0 yX0_begin yX0_begin, Cond.initialized RX0, Cond.code yX0_begin cX0_begin 1 none, Cond.fieldLink RX0 38 "ParallelUndo$Attempt" "began" "I", Cond.fieldLink RX0 44 "ParallelUndo$Attempt" "next" "I", Cond.fieldLink RX0 47 "ParallelUndo$Attempt" "done" "I", Cond.fieldLink RX0 50 "ParallelUndo$Attempt" "failed" "Z", Cond.fieldLink RX0 54 "ParallelUndo$Attempt" "kept" "I", Cond.fieldLink RX0 57 "ParallelUndo$Attempt" "keptMask" "I", Cond.fieldLink RX0 60 "ParallelUndo$Attempt" "writtenMask" "I", Cond.fieldLink RX0 63 "ParallelUndo$Attempt" "eventCount" "I", Cond.fieldLink RX0 18 "ParallelUndo$Attempt" "register" "[J", Cond.methodLink RX0 66 yJ7_fill_d0a16, Cond.static yJ7_fill_d0a16, Cond.initialized RJ7, Cond.code yJ7_fill_d0a16 cJ7_fill_d0a16 5 none, Cond.methodLink RX1 43 yX0_isOver, Cond.instanceMethod yX0_isOver, Cond.selects RX0 yX0_isOver yX0_isOver]
def wsX1_runOneByOne_r2 : List Cond := [Cond.code yX0_isOver cX0_isOver 2 (some .boolean), Cond.fieldLink RX0 34 "ParallelUndo$Attempt" "self" "I", Cond.methodLink RX0 72 yX2_hasAct, Cond.instanceMethod yX2_hasAct, Cond.selects RX2 yX2_hasAct yX2_hasAct, Cond.initialized RX2, Cond.code yX2_hasAct cX2_hasAct 3 (some .boolean), Cond.fieldLink RX2 28 "ParallelUndo$Block" "calls" "I", Cond.fieldLink RX2 9 "ParallelUndo$Block" "acts" "[I", Cond.methodLink RX1 47 yX0_doNext, Cond.instanceMethod yX0_doNext, Cond.selects RX0 yX0_doNext yX0_doNext, Cond.code yX0_doNext cX0_doNext 10 (some .int), Cond.fieldLink RX0 88 "ParallelUndo$Block" "kind" "[I", Cond.fieldLink RX0 91 "ParallelUndo$Block" "first" "[I", Cond.fieldLink RX0 94 "ParallelUndo$Block" "second" "[I", Cond.fieldLink RX0 97 "ParallelUndo$Block" "value" "[J", Cond.fieldLink RX0 41 "ParallelUndo$Attempt" "doneInAll" "I", Cond.methodLink RX0 84 yX0_isOver, Cond.methodLink RX0 102 yX0_leafAt, Cond.instanceMethod yX0_leafAt, Cond.selects RX0 yX0_leafAt yX0_leafAt, Cond.code yX0_leafAt cX0_leafAt 4 (some .int), Cond.constantLong RX0 114 (31)]
def wsX1_runOneByOne_r3 : List Cond := [Cond.methodLink RX0 106 yX0_read, Cond.instanceMethod yX0_read, Cond.selects RX0 yX0_read yX0_read, Cond.code yX0_read cX0_read 5 (some .int), Cond.fieldLink RX0 9 "ParallelUndo$Attempt" "written" "[J", Cond.fieldLink RX0 21 "ParallelUndo$Attempt" "keptValue" "[J", Cond.methodLink RX0 116 yX0_hasWritten, Cond.instanceMethod yX0_hasWritten, Cond.selects RX0 yX0_hasWritten yX0_hasWritten, Cond.code yX0_hasWritten cX0_hasWritten 2 (some .boolean), Cond.methodLink RX0 120 yX5_writerBelow, Cond.instanceMethod yX5_writerBelow, Cond.selects RX5 yX5_writerBelow yX5_writerBelow, Cond.initialized RX5, Cond.code yX5_writerBelow cX5_writerBelow 4 (some .int), Cond.fieldLink RX5 15 "ParallelUndo$Table" "state" "[I", Cond.methodLink RX0 126 yX5_isPerhaps, Cond.instanceMethod yX5_isPerhaps, Cond.selects RX5 yX5_isPerhaps yX5_isPerhaps, Cond.code yX5_isPerhaps cX5_isPerhaps 3 (some .boolean), Cond.methodLink RX0 129 yX5_numberOf, Cond.instanceMethod yX5_numberOf, Cond.selects RX5 yX5_numberOf yX5_numberOf, Cond.code yX5_numberOf cX5_numberOf 3 (some .int)]
def wsX1_runOneByOne_r4 : List Cond := [Cond.fieldLink RX5 19 "ParallelUndo$Table" "number" "[I", Cond.methodLink RX0 132 yX5_valueOf, Cond.instanceMethod yX5_valueOf, Cond.selects RX5 yX5_valueOf yX5_valueOf, Cond.code yX5_valueOf cX5_valueOf 3 (some .long), Cond.fieldLink RX5 9 "ParallelUndo$Table" "before" "[J", Cond.fieldLink RX5 22 "ParallelUndo$Table" "value" "[J", Cond.methodLink RX0 136 yX0_keep, Cond.instanceMethod yX0_keep, Cond.selects RX0 yX0_keep yX0_keep, Cond.code yX0_keep cX0_keep 6 none, Cond.fieldLink RX0 24 "ParallelUndo$Attempt" "keptLeaf" "[I", Cond.fieldLink RX0 28 "ParallelUndo$Attempt" "keptWriter" "[I", Cond.fieldLink RX0 31 "ParallelUndo$Attempt" "keptNumber" "[I", Cond.methodLink RX0 110 yX0_perform, Cond.instanceMethod yX0_perform, Cond.selects RX0 yX0_perform yX0_perform, Cond.code yX0_perform cX0_perform 6 none, Cond.methodLink RX0 139 yX0_write, Cond.instanceMethod yX0_write, Cond.selects RX0 yX0_write yX0_write, Cond.code yX0_write cX0_write 4 none, Cond.methodLink RX0 143 yX0_raise, Cond.instanceMethod yX0_raise]
def wsX1_runOneByOne_r5 : List Cond := [Cond.selects RX0 yX0_raise yX0_raise, Cond.code yX0_raise cX0_raise 3 none, Cond.fieldLink RX0 15 "ParallelUndo$Attempt" "eventValue" "[J", Cond.methodLink RX0 147 yX0_fail, Cond.instanceMethod yX0_fail, Cond.selects RX0 yX0_fail yX0_fail, Cond.code yX0_fail cX0_fail 1 none, Cond.methodLink RX1 51 yX5_publish, Cond.instanceMethod yX5_publish, Cond.selects RX5 yX5_publish yX5_publish, Cond.code yX5_publish cX5_publish 6 (some .boolean), Cond.fieldLink RX5 45 "ParallelUndo$Attempt" "self" "I", Cond.fieldLink RX5 55 "ParallelUndo$Attempt" "written" "[J", Cond.methodLink RX5 51 yX0_hasWritten]
def wsX1_runOneByOne : List Cond := .code yX1_runOneByOne cX1_runOneByOne 5 none :: ((wsX1_runOneByOne_r1 ++ (wsX1_runOneByOne_r2 ++ (wsX1_runOneByOne_r3 ++ (wsX1_runOneByOne_r4 ++ wsX1_runOneByOne_r5)))) ++ wsX10 ++ wsX00 ++ wsX20 ++ wsX50)
def wsX1_joinGroups : List Cond := .code yX1_joinGroups cX1_joinGroups 6 none :: ([.methodLink RX1 69 Lib.Math.min.name, .static Lib.Math.min.name, .initialized "java/lang/Math", .code Lib.Math.min.name Lib.Math.min.code 2 (some .int), .fieldLink RX1 33 "ParallelUndo$Bench" "calls" "I", .fieldLink RX1 20 "ParallelUndo$Bench" "attempts" "[LParallelUndo$Attempt;", .fieldLink RX1 55 "ParallelUndo$Attempt" "group" "I"] ++ wsX10 ++ wsX00)
def wsX1_joinTouching : List Cond := .code yX1_joinTouching cX1_joinTouching 4 none :: ([.fieldLink RX1 33 "ParallelUndo$Bench" "calls" "I", .fieldLink RX1 20 "ParallelUndo$Bench" "attempts" "[LParallelUndo$Attempt;", .fieldLink RX1 55 "ParallelUndo$Attempt" "group" "I", .methodLink RX1 61 yX0_touched, .instanceMethod yX0_touched, .selects RX0 yX0_touched yX0_touched, .initialized RX0, .code yX0_touched cX0_touched 2 (some .boolean), .fieldLink RX0 57 "ParallelUndo$Attempt" "keptMask" "I", .fieldLink RX0 60 "ParallelUndo$Attempt" "writtenMask" "I", .methodLink RX1 65 yX1_joinGroups, .instanceMethod yX1_joinGroups, .selects RX1 yX1_joinGroups yX1_joinGroups, .initialized RX1, .code yX1_joinGroups cX1_joinGroups 6 none, .methodLink RX1 69 Lib.Math.min.name, .static Lib.Math.min.name, .initialized "java/lang/Math", .code Lib.Math.min.name Lib.Math.min.code 2 (some .int)] ++ wsX10 ++ wsX00)
def wsX1_formGroups : List Cond := .code yX1_formGroups cX1_formGroups 2 none :: ([.fieldLink RX1 33 "ParallelUndo$Bench" "calls" "I", .fieldLink RX1 20 "ParallelUndo$Bench" "attempts" "[LParallelUndo$Attempt;", .fieldLink RX1 55 "ParallelUndo$Attempt" "group" "I", .methodLink RX1 58 yX1_joinTouching, .instanceMethod yX1_joinTouching, .selects RX1 yX1_joinTouching yX1_joinTouching, .initialized RX1, .code yX1_joinTouching cX1_joinTouching 4 none, .methodLink RX1 61 yX0_touched, .instanceMethod yX0_touched, .selects RX0 yX0_touched yX0_touched, .initialized RX0, .code yX0_touched cX0_touched 2 (some .boolean), .fieldLink RX0 57 "ParallelUndo$Attempt" "keptMask" "I", .fieldLink RX0 60 "ParallelUndo$Attempt" "writtenMask" "I", .methodLink RX1 65 yX1_joinGroups, .instanceMethod yX1_joinGroups, .selects RX1 yX1_joinGroups yX1_joinGroups, .code yX1_joinGroups cX1_joinGroups 6 none, .methodLink RX1 69 Lib.Math.min.name, .static Lib.Math.min.name, .initialized "java/lang/Math", .code Lib.Math.min.name Lib.Math.min.code 2 (some .int)] ++ wsX10 ++ wsX00)
def wsX1_countGroups : List Cond := .code yX1_countGroups cX1_countGroups 3 (some .int) :: ([.fieldLink RX1 33 "ParallelUndo$Bench" "calls" "I", .fieldLink RX1 20 "ParallelUndo$Bench" "attempts" "[LParallelUndo$Attempt;", .fieldLink RX1 55 "ParallelUndo$Attempt" "group" "I"] ++ wsX10 ++ wsX00)
def wsX1_countActs : List Cond := .code yX1_countActs cX1_countActs 3 (some .int) :: ([.fieldLink RX1 33 "ParallelUndo$Bench" "calls" "I", .fieldLink RX1 20 "ParallelUndo$Bench" "attempts" "[LParallelUndo$Attempt;", .fieldLink RX1 75 "ParallelUndo$Attempt" "doneInAll" "I"] ++ wsX10 ++ wsX00)
def wsX1_countEvents : List Cond := .code yX1_countEvents cX1_countEvents 3 (some .int) :: ([.fieldLink RX1 33 "ParallelUndo$Bench" "calls" "I", .fieldLink RX1 20 "ParallelUndo$Bench" "attempts" "[LParallelUndo$Attempt;", .fieldLink RX1 78 "ParallelUndo$Attempt" "eventCount" "I"] ++ wsX10 ++ wsX00)
def wsX1_tellEvent : List Cond := .code yX1_tellEvent cX1_tellEvent 6 (some .long) :: ([.fieldLink RX1 33 "ParallelUndo$Bench" "calls" "I", .fieldLink RX1 20 "ParallelUndo$Bench" "attempts" "[LParallelUndo$Attempt;", .fieldLink RX1 78 "ParallelUndo$Attempt" "eventCount" "I", .fieldLink RX1 81 "ParallelUndo$Attempt" "eventValue" "[J"] ++ wsX10 ++ wsX00)
def wsX1_tellCall : List Cond := .code yX1_tellCall cX1_tellCall 4 (some .int) :: ([.fieldLink RX1 33 "ParallelUndo$Bench" "calls" "I", .fieldLink RX1 20 "ParallelUndo$Bench" "attempts" "[LParallelUndo$Attempt;", .fieldLink RX1 85 "ParallelUndo$Attempt" "began" "I", .fieldLink RX1 88 "ParallelUndo$Attempt" "done" "I", .fieldLink RX1 91 "ParallelUndo$Attempt" "failed" "Z", .fieldLink RX1 95 "ParallelUndo$Attempt" "kept" "I", .fieldLink RX1 55 "ParallelUndo$Attempt" "group" "I", .methodLink RX1 98 yX0_countWritten, .instanceMethod yX0_countWritten, .selects RX0 yX0_countWritten yX0_countWritten, .initialized RX0, .code yX0_countWritten cX0_countWritten 1 (some .int), .fieldLink RX0 60 "ParallelUndo$Attempt" "writtenMask" "I", .methodLink RX0 78 yJ6_bitCount_0f7a4, .static yJ6_bitCount_0f7a4, .initialized RJ6, .code yJ6_bitCount_0f7a4 cJ6_bitCount_0f7a4 1 (some .int), .constant RJ6 265 (1431655765), .constant RJ6 266 (858993459), .constant RJ6 267 (252645135)] ++ wsX10 ++ wsX00)
def wsX2_init : List Cond := .code yX2_init cX2_init 1 none :: ([.methodLink RX2 3 objectInit, .instanceMethod objectInit, .code objectInit ⟨#[0xb1]⟩ 1 none, .arrayClass .int, .fieldLink RX2 9 "ParallelUndo$Block" "acts" "[I", .fieldLink RX2 15 "ParallelUndo$Block" "kind" "[I", .fieldLink RX2 18 "ParallelUndo$Block" "first" "[I", .fieldLink RX2 21 "ParallelUndo$Block" "second" "[I", .arrayClass .long, .fieldLink RX2 24 "ParallelUndo$Block" "value" "[J"] ++ wsX20)
def wsX2_addCall : List Cond := .code yX2_addCall cX2_addCall 1 (some .int) :: ([.fieldLink RX2 28 "ParallelUndo$Block" "calls" "I", .fieldLink RX2 9 "ParallelUndo$Block" "acts" "[I"] ++ wsX20)
def wsX2_addAct : List Cond := .code yX2_addAct cX2_addAct 8 (some .int) :: ([.fieldLink RX2 28 "ParallelUndo$Block" "calls" "I", .fieldLink RX2 9 "ParallelUndo$Block" "acts" "[I", .fieldLink RX2 15 "ParallelUndo$Block" "kind" "[I", .fieldLink RX2 18 "ParallelUndo$Block" "first" "[I", .fieldLink RX2 21 "ParallelUndo$Block" "second" "[I", .fieldLink RX2 24 "ParallelUndo$Block" "value" "[J"] ++ wsX20)
def wsX2_dropCalls : List Cond := .code yX2_dropCalls cX2_dropCalls 2 (some .int) :: ([.fieldLink RX2 28 "ParallelUndo$Block" "calls" "I"] ++ wsX20)
def wsX3_init : List Cond := .code yX3_init cX3_init 1 none :: ([.methodLink RX3 1 objectInit, .instanceMethod objectInit, .code objectInit ⟨#[0xb1]⟩ 1 none, .arrayClass .int, .fieldLink RX3 9 "ParallelUndo$Conflicts" "hit" "[I", .fieldLink RX3 13 "ParallelUndo$Conflicts" "by" "[I"] ++ wsX30)
def wsX3_note : List Cond := .code yX3_note cX3_note 3 none :: ([.fieldLink RX3 16 "ParallelUndo$Conflicts" "count" "I", .fieldLink RX3 9 "ParallelUndo$Conflicts" "hit" "[I", .fieldLink RX3 13 "ParallelUndo$Conflicts" "by" "[I"] ++ wsX30)
def wsX3_tell : List Cond := .code yX3_tell cX3_tell 3 (some .int) :: ([.fieldLink RX3 16 "ParallelUndo$Conflicts" "count" "I", .fieldLink RX3 9 "ParallelUndo$Conflicts" "hit" "[I", .fieldLink RX3 13 "ParallelUndo$Conflicts" "by" "[I"] ++ wsX30)
def wsX4_isRegister : List Cond := .code yX4_isRegister cX4_isRegister 1 (some .boolean) :: ([])
def wsX4_hasSecond : List Cond := .code yX4_hasSecond cX4_hasSecond 1 (some .boolean) :: ([])
def wsX4_allowsValue : List Cond := .code yX4_allowsValue cX4_allowsValue 3 (some .boolean) :: ([.constantLong RX4 22 (12)])
def wsX4_allows : List Cond := .code yX4_allows cX4_allows 5 (some .boolean) :: ([.methodLink RX4 11 yX4_isRegister, .static yX4_isRegister, .initialized RX4, .code yX4_isRegister cX4_isRegister 1 (some .boolean), .methodLink RX4 15 yX4_hasSecond, .static yX4_hasSecond, .code yX4_hasSecond cX4_hasSecond 1 (some .boolean), .methodLink RX4 18 yX4_allowsValue, .static yX4_allowsValue, .code yX4_allowsValue cX4_allowsValue 3 (some .boolean), .constantLong RX4 22 (12)])
def wsX5_valueAfter : List Cond := .code yX5_valueAfter cX5_valueAfter 2 (some .long) :: ([.methodLink RX5 37 yX5_writerBelow, .instanceMethod yX5_writerBelow, .selects RX5 yX5_writerBelow yX5_writerBelow, .initialized RX5, .code yX5_writerBelow cX5_writerBelow 4 (some .int), .fieldLink RX5 15 "ParallelUndo$Table" "state" "[I", .methodLink RX5 41 yX5_valueOf, .instanceMethod yX5_valueOf, .selects RX5 yX5_valueOf yX5_valueOf, .code yX5_valueOf cX5_valueOf 3 (some .long), .fieldLink RX5 9 "ParallelUndo$Table" "before" "[J", .fieldLink RX5 22 "ParallelUndo$Table" "value" "[J"] ++ wsX50)
def wsX5_doubt : List Cond := .code yX5_doubt cX5_doubt 3 none :: ([.fieldLink RX5 15 "ParallelUndo$Table" "state" "[I"] ++ wsX50)
def wsX6_init_r1 : List Cond := [Cond.methodLink RX6 3 objectInit, Cond.instanceMethod objectInit, Cond.code objectInit ⟨#[0xb1]⟩ 1 none, Cond.classLink RX6 9 RX1, Cond.instantiable RX1 3, Cond.initialized RX1, Cond.fieldLink RX6 12 "ParallelUndo$Workers" "bench" "LParallelUndo$Bench;", Cond.classLink RX6 18 RX3, Cond.instantiable RX3 3, Cond.initialized RX3, Cond.fieldLink RX6 21 "ParallelUndo$Workers" "conflicts" "LParallelUndo$Conflicts;", Cond.arrayClass .int, Cond.fieldLink RX6 25 "ParallelUndo$Workers" "status" "[I", Cond.fieldLink RX6 29 "ParallelUndo$Workers" "awaited" "[I", Cond.fieldLink RX6 32 "ParallelUndo$Workers" "number" "[I", Cond.fieldLink RX6 35 "ParallelUndo$Workers" "task" "[I", Cond.fieldLink RX6 38 "ParallelUndo$Workers" "taskCall" "[I", Cond.fieldLink RX6 41 "ParallelUndo$Workers" "taskNumber" "[I", Cond.methodLink RX6 11 yX1_init, Cond.instanceMethod yX1_init, Cond.code yX1_init cX1_init 2 none, Cond.methodLink RX1 3 objectInit, Cond.classLink RX1 9 RX5, Cond.instantiable RX5 4]
def wsX6_init_r2 : List Cond := [Cond.initialized RX5, Cond.fieldLink RX1 12 "ParallelUndo$Bench" "table" "LParallelUndo$Table;", Cond.classLink RX1 18 RX0, Cond.fieldLink RX1 20 "ParallelUndo$Bench" "attempts" "[LParallelUndo$Attempt;", Cond.instantiable RX0 18, Cond.initialized RX0, Cond.instanceMethod yX5_init, Cond.code yX5_init cX5_init 1 none, Cond.methodLink RX5 3 objectInit, Cond.arrayClass .long, Cond.fieldLink RX5 9 "ParallelUndo$Table" "before" "[J", Cond.fieldLink RX5 15 "ParallelUndo$Table" "state" "[I", Cond.fieldLink RX5 19 "ParallelUndo$Table" "number" "[I", Cond.fieldLink RX5 22 "ParallelUndo$Table" "value" "[J", Cond.methodLink RX1 24 yX0_init, Cond.instanceMethod yX0_init, Cond.code yX0_init cX0_init 2 none, Cond.methodLink RX0 3 objectInit, Cond.fieldLink RX0 9 "ParallelUndo$Attempt" "written" "[J", Cond.fieldLink RX0 15 "ParallelUndo$Attempt" "eventValue" "[J", Cond.fieldLink RX0 18 "ParallelUndo$Attempt" "register" "[J", Cond.fieldLink RX0 21 "ParallelUndo$Attempt" "keptValue" "[J", Cond.fieldLink RX0 24 "ParallelUndo$Attempt" "keptLeaf" "[I", Cond.fieldLink RX0 28 "ParallelUndo$Attempt" "keptWriter" "[I"]
def wsX6_init_r3 : List Cond := [Cond.fieldLink RX0 31 "ParallelUndo$Attempt" "keptNumber" "[I", Cond.fieldLink RX0 34 "ParallelUndo$Attempt" "self" "I", Cond.instanceMethod yX3_init, Cond.code yX3_init cX3_init 1 none, Cond.methodLink RX3 1 objectInit, Cond.fieldLink RX3 9 "ParallelUndo$Conflicts" "hit" "[I", Cond.fieldLink RX3 13 "ParallelUndo$Conflicts" "by" "[I"]
def wsX6_init : List Cond := .code yX6_init cX6_init 1 none :: ((wsX6_init_r1 ++ (wsX6_init_r2 ++ wsX6_init_r3)) ++ wsX10 ++ wsX60 ++ wsX30 ++ wsX50 ++ wsX00)
def wsX6_open_r1 : List Cond := [Cond.fieldLink RX6 12 "ParallelUndo$Workers" "bench" "LParallelUndo$Bench;", Cond.fieldLink RX6 21 "ParallelUndo$Workers" "conflicts" "LParallelUndo$Conflicts;", Cond.fieldLink RX6 48 "ParallelUndo$Conflicts" "count" "I", Cond.fieldLink RX6 52 "ParallelUndo$Workers" "turns" "I", Cond.fieldLink RX6 55 "ParallelUndo$Workers" "looks" "I", Cond.fieldLink RX6 58 "ParallelUndo$Workers" "undone" "I", Cond.fieldLink RX6 61 "ParallelUndo$Workers" "givenUp" "I", Cond.fieldLink RX6 64 "ParallelUndo$Workers" "fell" "Z", Cond.fieldLink RX6 68 "ParallelUndo$Workers" "size" "I", Cond.fieldLink RX6 71 "ParallelUndo$Workers" "fallBound" "I", Cond.fieldLink RX6 74 "ParallelUndo$Workers" "runRow" "I", Cond.fieldLink RX6 77 "ParallelUndo$Workers" "lookRow" "I", Cond.fieldLink RX6 25 "ParallelUndo$Workers" "status" "[I", Cond.fieldLink RX6 29 "ParallelUndo$Workers" "awaited" "[I", Cond.fieldLink RX6 32 "ParallelUndo$Workers" "number" "[I", Cond.fieldLink RX6 35 "ParallelUndo$Workers" "task" "[I", Cond.methodLink RX6 44 yX1_open, Cond.instanceMethod yX1_open, Cond.selects RX1 yX1_open yX1_open, Cond.initialized RX1, Cond.code yX1_open cX1_open 4 none, Cond.fieldLink RX1 27 "ParallelUndo$Block" "calls" "I", Cond.fieldLink RX1 33 "ParallelUndo$Bench" "calls" "I", Cond.fieldLink RX1 12 "ParallelUndo$Bench" "table" "LParallelUndo$Table;"]
def wsX6_open_r2 : List Cond := [Cond.fieldLink RX1 20 "ParallelUndo$Bench" "attempts" "[LParallelUndo$Attempt;", Cond.methodLink RX1 34 yX5_open, Cond.instanceMethod yX5_open, Cond.selects RX5 yX5_open yX5_open, Cond.initialized RX5, Cond.code yX5_open cX5_open 2 none, Cond.fieldLink RX5 9 "ParallelUndo$Table" "before" "[J", Cond.methodLink RX5 25 arraycopyName, Cond.native arraycopyName, Cond.static arraycopyName, Cond.initialized "java/lang/System", Cond.fieldLink RX5 15 "ParallelUndo$Table" "state" "[I", Cond.methodLink RX5 31 yJ7_fill_53178, Cond.static yJ7_fill_53178, Cond.initialized RJ7, Cond.code yJ7_fill_53178 cJ7_fill_53178 4 none, Cond.methodLink RX1 38 yX0_open, Cond.instanceMethod yX0_open, Cond.selects RX0 yX0_open yX0_open, Cond.initialized RX0, Cond.code yX0_open cX0_open 1 none, Cond.fieldLink RX0 38 "ParallelUndo$Attempt" "began" "I", Cond.fieldLink RX0 41 "ParallelUndo$Attempt" "doneInAll" "I", Cond.methodLink RX6 80 yJ7_fill_53178]
def wsX6_open : List Cond := .code yX6_open cX6_open 5 none :: ((wsX6_open_r1 ++ wsX6_open_r2) ++ wsX60 ++ wsX30 ++ wsX20 ++ wsX10 ++ wsX50 ++ wsX00)
def wsX6_isDone : List Cond := .code yX6_isDone cX6_isDone 2 (some .boolean) :: ([.fieldLink RX6 74 "ParallelUndo$Workers" "runRow" "I", .fieldLink RX6 12 "ParallelUndo$Workers" "bench" "LParallelUndo$Bench;", .fieldLink RX6 103 "ParallelUndo$Bench" "calls" "I", .fieldLink RX6 77 "ParallelUndo$Workers" "lookRow" "I", .fieldLink RX6 68 "ParallelUndo$Workers" "size" "I", .fieldLink RX6 35 "ParallelUndo$Workers" "task" "[I"] ++ wsX60 ++ wsX10)
def wsX6_giveUp : List Cond := .code yX6_giveUp cX6_giveUp 4 none :: ([.fieldLink RX6 35 "ParallelUndo$Workers" "task" "[I", .fieldLink RX6 25 "ParallelUndo$Workers" "status" "[I", .fieldLink RX6 29 "ParallelUndo$Workers" "awaited" "[I", .fieldLink RX6 61 "ParallelUndo$Workers" "givenUp" "I", .fieldLink RX6 21 "ParallelUndo$Workers" "conflicts" "LParallelUndo$Conflicts;", .methodLink RX6 151 yX3_note, .instanceMethod yX3_note, .selects RX3 yX3_note yX3_note, .initialized RX3, .code yX3_note cX3_note 3 none, .fieldLink RX3 16 "ParallelUndo$Conflicts" "count" "I", .fieldLink RX3 9 "ParallelUndo$Conflicts" "hit" "[I", .fieldLink RX3 13 "ParallelUndo$Conflicts" "by" "[I"] ++ wsX60 ++ wsX30)
def wsX6_wakeThoseWaitingFor : List Cond := .code yX6_wakeThoseWaitingFor cX6_wakeThoseWaitingFor 3 none :: ([.fieldLink RX6 12 "ParallelUndo$Workers" "bench" "LParallelUndo$Bench;", .fieldLink RX6 103 "ParallelUndo$Bench" "calls" "I", .fieldLink RX6 25 "ParallelUndo$Workers" "status" "[I", .fieldLink RX6 29 "ParallelUndo$Workers" "awaited" "[I", .fieldLink RX6 74 "ParallelUndo$Workers" "runRow" "I", .methodLink RX6 163 Lib.Math.min.name, .static Lib.Math.min.name, .initialized "java/lang/Math", .code Lib.Math.min.name Lib.Math.min.code 2 (some .int)] ++ wsX60 ++ wsX10)
def wsX6_giveLook : List Cond := .code yX6_giveLook cX6_giveLook 3 none :: ([.fieldLink RX6 35 "ParallelUndo$Workers" "task" "[I", .fieldLink RX6 38 "ParallelUndo$Workers" "taskCall" "[I", .fieldLink RX6 41 "ParallelUndo$Workers" "taskNumber" "[I", .fieldLink RX6 32 "ParallelUndo$Workers" "number" "[I"] ++ wsX60)
def wsX6_end_r1 : List Cond := [Cond.fieldLink RX6 35 "ParallelUndo$Workers" "task" "[I", Cond.fieldLink RX6 12 "ParallelUndo$Workers" "bench" "LParallelUndo$Bench;", Cond.fieldLink RX6 132 "ParallelUndo$Bench" "table" "LParallelUndo$Table;", Cond.fieldLink RX6 123 "ParallelUndo$Bench" "attempts" "[LParallelUndo$Attempt;", Cond.fieldLink RX6 32 "ParallelUndo$Workers" "number" "[I", Cond.fieldLink RX6 25 "ParallelUndo$Workers" "status" "[I", Cond.fieldLink RX6 77 "ParallelUndo$Workers" "lookRow" "I", Cond.methodLink RX6 154 yX5_publish, Cond.instanceMethod yX5_publish, Cond.selects RX5 yX5_publish yX5_publish, Cond.initialized RX5, Cond.code yX5_publish cX5_publish 6 (some .boolean), Cond.fieldLink RX5 45 "ParallelUndo$Attempt" "self" "I", Cond.fieldLink RX5 15 "ParallelUndo$Table" "state" "[I", Cond.fieldLink RX5 19 "ParallelUndo$Table" "number" "[I", Cond.fieldLink RX5 22 "ParallelUndo$Table" "value" "[J", Cond.fieldLink RX5 55 "ParallelUndo$Attempt" "written" "[J", Cond.methodLink RX5 51 yX0_hasWritten, Cond.instanceMethod yX0_hasWritten, Cond.selects RX0 yX0_hasWritten yX0_hasWritten, Cond.initialized RX0, Cond.code yX0_hasWritten cX0_hasWritten 2 (some .boolean), Cond.fieldLink RX0 60 "ParallelUndo$Attempt" "writtenMask" "I", Cond.methodLink RX6 160 yX6_wakeThoseWaitingFor]
def wsX6_end_r2 : List Cond := [Cond.instanceMethod yX6_wakeThoseWaitingFor, Cond.selects RX6 yX6_wakeThoseWaitingFor yX6_wakeThoseWaitingFor, Cond.initialized RX6, Cond.code yX6_wakeThoseWaitingFor cX6_wakeThoseWaitingFor 3 none, Cond.fieldLink RX6 103 "ParallelUndo$Bench" "calls" "I", Cond.fieldLink RX6 29 "ParallelUndo$Workers" "awaited" "[I", Cond.fieldLink RX6 74 "ParallelUndo$Workers" "runRow" "I", Cond.methodLink RX6 163 Lib.Math.min.name, Cond.static Lib.Math.min.name, Cond.initialized "java/lang/Math", Cond.code Lib.Math.min.name Lib.Math.min.code 2 (some .int), Cond.methodLink RX6 116 yX6_giveLook, Cond.instanceMethod yX6_giveLook, Cond.selects RX6 yX6_giveLook yX6_giveLook, Cond.code yX6_giveLook cX6_giveLook 3 none, Cond.fieldLink RX6 38 "ParallelUndo$Workers" "taskCall" "[I", Cond.fieldLink RX6 41 "ParallelUndo$Workers" "taskNumber" "[I"]
def wsX6_end : List Cond := .code yX6_end cX6_end 4 none :: ((wsX6_end_r1 ++ wsX6_end_r2) ++ wsX60 ++ wsX10 ++ wsX00 ++ wsX50)
def wsX6_goOn_r1 : List Cond := [Cond.fieldLink RX6 38 "ParallelUndo$Workers" "taskCall" "[I", Cond.fieldLink RX6 12 "ParallelUndo$Workers" "bench" "LParallelUndo$Bench;", Cond.fieldLink RX6 123 "ParallelUndo$Bench" "attempts" "[LParallelUndo$Attempt;", Cond.fieldLink RX6 132 "ParallelUndo$Bench" "table" "LParallelUndo$Table;", Cond.methodLink RX6 136 yX0_doNext, Cond.instanceMethod yX0_doNext, Cond.selects RX0 yX0_doNext yX0_doNext, Cond.initialized RX0, Cond.code yX0_doNext cX0_doNext 10 (some .int), Cond.fieldLink RX0 34 "ParallelUndo$Attempt" "self" "I", Cond.fieldLink RX0 44 "ParallelUndo$Attempt" "next" "I", Cond.fieldLink RX0 88 "ParallelUndo$Block" "kind" "[I", Cond.fieldLink RX0 91 "ParallelUndo$Block" "first" "[I", Cond.fieldLink RX0 94 "ParallelUndo$Block" "second" "[I", Cond.fieldLink RX0 97 "ParallelUndo$Block" "value" "[J", Cond.fieldLink RX0 47 "ParallelUndo$Attempt" "done" "I", Cond.fieldLink RX0 41 "ParallelUndo$Attempt" "doneInAll" "I", Cond.methodLink RX0 84 yX0_isOver, Cond.instanceMethod yX0_isOver, Cond.selects RX0 yX0_isOver yX0_isOver, Cond.code yX0_isOver cX0_isOver 2 (some .boolean), Cond.fieldLink RX0 50 "ParallelUndo$Attempt" "failed" "Z", Cond.methodLink RX0 72 yX2_hasAct, Cond.instanceMethod yX2_hasAct]
def wsX6_goOn_r2 : List Cond := [Cond.selects RX2 yX2_hasAct yX2_hasAct, Cond.initialized RX2, Cond.code yX2_hasAct cX2_hasAct 3 (some .boolean), Cond.fieldLink RX2 28 "ParallelUndo$Block" "calls" "I", Cond.fieldLink RX2 9 "ParallelUndo$Block" "acts" "[I", Cond.methodLink RX0 102 yX0_leafAt, Cond.instanceMethod yX0_leafAt, Cond.selects RX0 yX0_leafAt yX0_leafAt, Cond.code yX0_leafAt cX0_leafAt 4 (some .int), Cond.fieldLink RX0 18 "ParallelUndo$Attempt" "register" "[J", Cond.constantLong RX0 114 (31), Cond.methodLink RX0 106 yX0_read, Cond.instanceMethod yX0_read, Cond.selects RX0 yX0_read yX0_read, Cond.code yX0_read cX0_read 5 (some .int), Cond.fieldLink RX0 9 "ParallelUndo$Attempt" "written" "[J", Cond.fieldLink RX0 57 "ParallelUndo$Attempt" "keptMask" "I", Cond.fieldLink RX0 21 "ParallelUndo$Attempt" "keptValue" "[J", Cond.methodLink RX0 116 yX0_hasWritten, Cond.instanceMethod yX0_hasWritten, Cond.selects RX0 yX0_hasWritten yX0_hasWritten, Cond.code yX0_hasWritten cX0_hasWritten 2 (some .boolean), Cond.fieldLink RX0 60 "ParallelUndo$Attempt" "writtenMask" "I", Cond.methodLink RX0 120 yX5_writerBelow]
def wsX6_goOn_r3 : List Cond := [Cond.instanceMethod yX5_writerBelow, Cond.selects RX5 yX5_writerBelow yX5_writerBelow, Cond.initialized RX5, Cond.code yX5_writerBelow cX5_writerBelow 4 (some .int), Cond.fieldLink RX5 15 "ParallelUndo$Table" "state" "[I", Cond.methodLink RX0 126 yX5_isPerhaps, Cond.instanceMethod yX5_isPerhaps, Cond.selects RX5 yX5_isPerhaps yX5_isPerhaps, Cond.code yX5_isPerhaps cX5_isPerhaps 3 (some .boolean), Cond.methodLink RX0 129 yX5_numberOf, Cond.instanceMethod yX5_numberOf, Cond.selects RX5 yX5_numberOf yX5_numberOf, Cond.code yX5_numberOf cX5_numberOf 3 (some .int), Cond.fieldLink RX5 19 "ParallelUndo$Table" "number" "[I", Cond.methodLink RX0 132 yX5_valueOf, Cond.instanceMethod yX5_valueOf, Cond.selects RX5 yX5_valueOf yX5_valueOf, Cond.code yX5_valueOf cX5_valueOf 3 (some .long), Cond.fieldLink RX5 9 "ParallelUndo$Table" "before" "[J", Cond.fieldLink RX5 22 "ParallelUndo$Table" "value" "[J", Cond.methodLink RX0 136 yX0_keep, Cond.instanceMethod yX0_keep, Cond.selects RX0 yX0_keep yX0_keep, Cond.code yX0_keep cX0_keep 6 none]
def wsX6_goOn_r4 : List Cond := [Cond.fieldLink RX0 54 "ParallelUndo$Attempt" "kept" "I", Cond.fieldLink RX0 24 "ParallelUndo$Attempt" "keptLeaf" "[I", Cond.fieldLink RX0 28 "ParallelUndo$Attempt" "keptWriter" "[I", Cond.fieldLink RX0 31 "ParallelUndo$Attempt" "keptNumber" "[I", Cond.methodLink RX0 110 yX0_perform, Cond.instanceMethod yX0_perform, Cond.selects RX0 yX0_perform yX0_perform, Cond.code yX0_perform cX0_perform 6 none, Cond.methodLink RX0 139 yX0_write, Cond.instanceMethod yX0_write, Cond.selects RX0 yX0_write yX0_write, Cond.code yX0_write cX0_write 4 none, Cond.methodLink RX0 143 yX0_raise, Cond.instanceMethod yX0_raise, Cond.selects RX0 yX0_raise yX0_raise, Cond.code yX0_raise cX0_raise 3 none, Cond.fieldLink RX0 63 "ParallelUndo$Attempt" "eventCount" "I", Cond.fieldLink RX0 15 "ParallelUndo$Attempt" "eventValue" "[J", Cond.methodLink RX0 147 yX0_fail, Cond.instanceMethod yX0_fail, Cond.selects RX0 yX0_fail yX0_fail, Cond.code yX0_fail cX0_fail 1 none, Cond.methodLink RX6 140 yX6_giveUp, Cond.instanceMethod yX6_giveUp]
def wsX6_goOn_r5 : List Cond := [Cond.selects RX6 yX6_giveUp yX6_giveUp, Cond.initialized RX6, Cond.code yX6_giveUp cX6_giveUp 4 none, Cond.fieldLink RX6 35 "ParallelUndo$Workers" "task" "[I", Cond.fieldLink RX6 25 "ParallelUndo$Workers" "status" "[I", Cond.fieldLink RX6 29 "ParallelUndo$Workers" "awaited" "[I", Cond.fieldLink RX6 61 "ParallelUndo$Workers" "givenUp" "I", Cond.fieldLink RX6 21 "ParallelUndo$Workers" "conflicts" "LParallelUndo$Conflicts;", Cond.methodLink RX6 151 yX3_note, Cond.instanceMethod yX3_note, Cond.selects RX3 yX3_note yX3_note, Cond.initialized RX3, Cond.code yX3_note cX3_note 3 none, Cond.fieldLink RX3 16 "ParallelUndo$Conflicts" "count" "I", Cond.fieldLink RX3 9 "ParallelUndo$Conflicts" "hit" "[I", Cond.fieldLink RX3 13 "ParallelUndo$Conflicts" "by" "[I", Cond.methodLink RX6 144 yX0_isOver, Cond.methodLink RX6 148 yX6_end, Cond.instanceMethod yX6_end, Cond.selects RX6 yX6_end yX6_end, Cond.code yX6_end cX6_end 4 none, Cond.fieldLink RX6 32 "ParallelUndo$Workers" "number" "[I", Cond.fieldLink RX6 77 "ParallelUndo$Workers" "lookRow" "I", Cond.methodLink RX6 154 yX5_publish]
def wsX6_goOn_r6 : List Cond := [Cond.instanceMethod yX5_publish, Cond.selects RX5 yX5_publish yX5_publish, Cond.code yX5_publish cX5_publish 6 (some .boolean), Cond.fieldLink RX5 45 "ParallelUndo$Attempt" "self" "I", Cond.fieldLink RX5 55 "ParallelUndo$Attempt" "written" "[J", Cond.methodLink RX5 51 yX0_hasWritten, Cond.methodLink RX6 160 yX6_wakeThoseWaitingFor, Cond.instanceMethod yX6_wakeThoseWaitingFor, Cond.selects RX6 yX6_wakeThoseWaitingFor yX6_wakeThoseWaitingFor, Cond.code yX6_wakeThoseWaitingFor cX6_wakeThoseWaitingFor 3 none, Cond.fieldLink RX6 103 "ParallelUndo$Bench" "calls" "I", Cond.fieldLink RX6 74 "ParallelUndo$Workers" "runRow" "I", Cond.methodLink RX6 163 Lib.Math.min.name, Cond.static Lib.Math.min.name, Cond.initialized "java/lang/Math", Cond.code Lib.Math.min.name Lib.Math.min.code 2 (some .int), Cond.methodLink RX6 116 yX6_giveLook, Cond.instanceMethod yX6_giveLook, Cond.selects RX6 yX6_giveLook yX6_giveLook, Cond.code yX6_giveLook cX6_giveLook 3 none, Cond.fieldLink RX6 41 "ParallelUndo$Workers" "taskNumber" "[I"]
def wsX6_goOn : List Cond := .code yX6_goOn cX6_goOn 6 none :: ((wsX6_goOn_r1 ++ (wsX6_goOn_r2 ++ (wsX6_goOn_r3 ++ (wsX6_goOn_r4 ++ (wsX6_goOn_r5 ++ wsX6_goOn_r6))))) ++ wsX60 ++ wsX10 ++ wsX00 ++ wsX20 ++ wsX50 ++ wsX30)
def wsX6_undo : List Cond := .code yX6_undo cX6_undo 2 none :: ([.fieldLink RX6 58 "ParallelUndo$Workers" "undone" "I", .fieldLink RX6 12 "ParallelUndo$Workers" "bench" "LParallelUndo$Bench;", .fieldLink RX6 132 "ParallelUndo$Bench" "table" "LParallelUndo$Table;", .fieldLink RX6 32 "ParallelUndo$Workers" "number" "[I", .fieldLink RX6 25 "ParallelUndo$Workers" "status" "[I", .fieldLink RX6 77 "ParallelUndo$Workers" "lookRow" "I", .methodLink RX6 163 Lib.Math.min.name, .static Lib.Math.min.name, .initialized "java/lang/Math", .code Lib.Math.min.name Lib.Math.min.code 2 (some .int), .fieldLink RX6 71 "ParallelUndo$Workers" "fallBound" "I", .fieldLink RX6 64 "ParallelUndo$Workers" "fell" "Z", .methodLink RX6 179 yX5_doubt, .instanceMethod yX5_doubt, .selects RX5 yX5_doubt yX5_doubt, .initialized RX5, .code yX5_doubt cX5_doubt 3 none, .fieldLink RX5 15 "ParallelUndo$Table" "state" "[I"] ++ wsX60 ++ wsX10 ++ wsX50)
def wsX6_giveRun : List Cond := .code yX6_giveRun cX6_giveRun 3 none :: ([.fieldLink RX6 35 "ParallelUndo$Workers" "task" "[I", .fieldLink RX6 38 "ParallelUndo$Workers" "taskCall" "[I", .fieldLink RX6 25 "ParallelUndo$Workers" "status" "[I", .fieldLink RX6 12 "ParallelUndo$Workers" "bench" "LParallelUndo$Bench;", .fieldLink RX6 123 "ParallelUndo$Bench" "attempts" "[LParallelUndo$Attempt;", .methodLink RX6 127 yX0_begin, .instanceMethod yX0_begin, .selects RX0 yX0_begin yX0_begin, .initialized RX0, .code yX0_begin cX0_begin 1 none, .fieldLink RX0 38 "ParallelUndo$Attempt" "began" "I", .fieldLink RX0 44 "ParallelUndo$Attempt" "next" "I", .fieldLink RX0 47 "ParallelUndo$Attempt" "done" "I", .fieldLink RX0 50 "ParallelUndo$Attempt" "failed" "Z", .fieldLink RX0 54 "ParallelUndo$Attempt" "kept" "I", .fieldLink RX0 57 "ParallelUndo$Attempt" "keptMask" "I", .fieldLink RX0 60 "ParallelUndo$Attempt" "writtenMask" "I", .fieldLink RX0 63 "ParallelUndo$Attempt" "eventCount" "I", .fieldLink RX0 18 "ParallelUndo$Attempt" "register" "[J", .methodLink RX0 66 yJ7_fill_d0a16, .static yJ7_fill_d0a16, .initialized RJ7, .code yJ7_fill_d0a16 cJ7_fill_d0a16 5 none] ++ wsX60 ++ wsX10 ++ wsX00)
def wsX6_look_r1 : List Cond := [Cond.fieldLink RX6 38 "ParallelUndo$Workers" "taskCall" "[I", Cond.fieldLink RX6 35 "ParallelUndo$Workers" "task" "[I", Cond.fieldLink RX6 55 "ParallelUndo$Workers" "looks" "I", Cond.fieldLink RX6 25 "ParallelUndo$Workers" "status" "[I", Cond.fieldLink RX6 32 "ParallelUndo$Workers" "number" "[I", Cond.fieldLink RX6 41 "ParallelUndo$Workers" "taskNumber" "[I", Cond.fieldLink RX6 12 "ParallelUndo$Workers" "bench" "LParallelUndo$Bench;", Cond.fieldLink RX6 123 "ParallelUndo$Bench" "attempts" "[LParallelUndo$Attempt;", Cond.fieldLink RX6 132 "ParallelUndo$Bench" "table" "LParallelUndo$Table;", Cond.fieldLink RX6 21 "ParallelUndo$Workers" "conflicts" "LParallelUndo$Conflicts;", Cond.fieldLink RX6 64 "ParallelUndo$Workers" "fell" "Z", Cond.fieldLink RX6 74 "ParallelUndo$Workers" "runRow" "I", Cond.methodLink RX6 169 yX0_firstChanged, Cond.instanceMethod yX0_firstChanged, Cond.selects RX0 yX0_firstChanged yX0_firstChanged, Cond.initialized RX0, Cond.code yX0_firstChanged cX0_firstChanged 5 (some .int), Cond.fieldLink RX0 54 "ParallelUndo$Attempt" "kept" "I", Cond.fieldLink RX0 24 "ParallelUndo$Attempt" "keptLeaf" "[I", Cond.fieldLink RX0 34 "ParallelUndo$Attempt" "self" "I", Cond.fieldLink RX0 28 "ParallelUndo$Attempt" "keptWriter" "[I", Cond.fieldLink RX0 31 "ParallelUndo$Attempt" "keptNumber" "[I", Cond.methodLink RX0 120 yX5_writerBelow, Cond.instanceMethod yX5_writerBelow]
def wsX6_look_r2 : List Cond := [Cond.selects RX5 yX5_writerBelow yX5_writerBelow, Cond.initialized RX5, Cond.code yX5_writerBelow cX5_writerBelow 4 (some .int), Cond.fieldLink RX5 15 "ParallelUndo$Table" "state" "[I", Cond.methodLink RX0 126 yX5_isPerhaps, Cond.instanceMethod yX5_isPerhaps, Cond.selects RX5 yX5_isPerhaps yX5_isPerhaps, Cond.code yX5_isPerhaps cX5_isPerhaps 3 (some .boolean), Cond.methodLink RX0 129 yX5_numberOf, Cond.instanceMethod yX5_numberOf, Cond.selects RX5 yX5_numberOf yX5_numberOf, Cond.code yX5_numberOf cX5_numberOf 3 (some .int), Cond.fieldLink RX5 19 "ParallelUndo$Table" "number" "[I", Cond.methodLink RX6 173 yX5_writerBelow, Cond.methodLink RX6 151 yX3_note, Cond.instanceMethod yX3_note, Cond.selects RX3 yX3_note yX3_note, Cond.initialized RX3, Cond.code yX3_note cX3_note 3 none, Cond.fieldLink RX3 16 "ParallelUndo$Conflicts" "count" "I", Cond.fieldLink RX3 9 "ParallelUndo$Conflicts" "hit" "[I", Cond.fieldLink RX3 13 "ParallelUndo$Conflicts" "by" "[I", Cond.methodLink RX6 176 yX6_undo, Cond.instanceMethod yX6_undo]
def wsX6_look_r3 : List Cond := [Cond.selects RX6 yX6_undo yX6_undo, Cond.initialized RX6, Cond.code yX6_undo cX6_undo 2 none, Cond.fieldLink RX6 58 "ParallelUndo$Workers" "undone" "I", Cond.fieldLink RX6 77 "ParallelUndo$Workers" "lookRow" "I", Cond.methodLink RX6 163 Lib.Math.min.name, Cond.static Lib.Math.min.name, Cond.initialized "java/lang/Math", Cond.code Lib.Math.min.name Lib.Math.min.code 2 (some .int), Cond.fieldLink RX6 71 "ParallelUndo$Workers" "fallBound" "I", Cond.methodLink RX6 179 yX5_doubt, Cond.instanceMethod yX5_doubt, Cond.selects RX5 yX5_doubt yX5_doubt, Cond.code yX5_doubt cX5_doubt 3 none, Cond.methodLink RX6 120 yX6_giveRun, Cond.instanceMethod yX6_giveRun, Cond.selects RX6 yX6_giveRun yX6_giveRun, Cond.code yX6_giveRun cX6_giveRun 3 none, Cond.methodLink RX6 127 yX0_begin, Cond.instanceMethod yX0_begin, Cond.selects RX0 yX0_begin yX0_begin, Cond.code yX0_begin cX0_begin 1 none, Cond.fieldLink RX0 38 "ParallelUndo$Attempt" "began" "I", Cond.fieldLink RX0 44 "ParallelUndo$Attempt" "next" "I"]
def wsX6_look_r4 : List Cond := [Cond.fieldLink RX0 47 "ParallelUndo$Attempt" "done" "I", Cond.fieldLink RX0 50 "ParallelUndo$Attempt" "failed" "Z", Cond.fieldLink RX0 57 "ParallelUndo$Attempt" "keptMask" "I", Cond.fieldLink RX0 60 "ParallelUndo$Attempt" "writtenMask" "I", Cond.fieldLink RX0 63 "ParallelUndo$Attempt" "eventCount" "I", Cond.fieldLink RX0 18 "ParallelUndo$Attempt" "register" "[J", Cond.methodLink RX0 66 yJ7_fill_d0a16, Cond.static yJ7_fill_d0a16, Cond.initialized RJ7, Cond.code yJ7_fill_d0a16 cJ7_fill_d0a16 5 none]
def wsX6_look : List Cond := .code yX6_look cX6_look 4 none :: ((wsX6_look_r1 ++ (wsX6_look_r2 ++ (wsX6_look_r3 ++ wsX6_look_r4))) ++ wsX60 ++ wsX10 ++ wsX00 ++ wsX50 ++ wsX30)
def wsX6_takeTask_r1 : List Cond := [Cond.fieldLink RX6 77 "ParallelUndo$Workers" "lookRow" "I", Cond.fieldLink RX6 74 "ParallelUndo$Workers" "runRow" "I", Cond.fieldLink RX6 25 "ParallelUndo$Workers" "status" "[I", Cond.fieldLink RX6 12 "ParallelUndo$Workers" "bench" "LParallelUndo$Bench;", Cond.fieldLink RX6 103 "ParallelUndo$Bench" "calls" "I", Cond.methodLink RX6 116 yX6_giveLook, Cond.instanceMethod yX6_giveLook, Cond.selects RX6 yX6_giveLook yX6_giveLook, Cond.initialized RX6, Cond.code yX6_giveLook cX6_giveLook 3 none, Cond.fieldLink RX6 35 "ParallelUndo$Workers" "task" "[I", Cond.fieldLink RX6 38 "ParallelUndo$Workers" "taskCall" "[I", Cond.fieldLink RX6 41 "ParallelUndo$Workers" "taskNumber" "[I", Cond.fieldLink RX6 32 "ParallelUndo$Workers" "number" "[I", Cond.methodLink RX6 120 yX6_giveRun, Cond.instanceMethod yX6_giveRun, Cond.selects RX6 yX6_giveRun yX6_giveRun, Cond.code yX6_giveRun cX6_giveRun 3 none, Cond.fieldLink RX6 123 "ParallelUndo$Bench" "attempts" "[LParallelUndo$Attempt;", Cond.methodLink RX6 127 yX0_begin, Cond.instanceMethod yX0_begin, Cond.selects RX0 yX0_begin yX0_begin, Cond.initialized RX0, Cond.code yX0_begin cX0_begin 1 none]
def wsX6_takeTask_r2 : List Cond := [Cond.fieldLink RX0 38 "ParallelUndo$Attempt" "began" "I", Cond.fieldLink RX0 44 "ParallelUndo$Attempt" "next" "I", Cond.fieldLink RX0 47 "ParallelUndo$Attempt" "done" "I", Cond.fieldLink RX0 50 "ParallelUndo$Attempt" "failed" "Z", Cond.fieldLink RX0 54 "ParallelUndo$Attempt" "kept" "I", Cond.fieldLink RX0 57 "ParallelUndo$Attempt" "keptMask" "I", Cond.fieldLink RX0 60 "ParallelUndo$Attempt" "writtenMask" "I", Cond.fieldLink RX0 63 "ParallelUndo$Attempt" "eventCount" "I", Cond.fieldLink RX0 18 "ParallelUndo$Attempt" "register" "[J", Cond.methodLink RX0 66 yJ7_fill_d0a16, Cond.static yJ7_fill_d0a16, Cond.initialized RJ7, Cond.code yJ7_fill_d0a16 cJ7_fill_d0a16 5 none]
def wsX6_takeTask : List Cond := .code yX6_takeTask cX6_takeTask 3 none :: ((wsX6_takeTask_r1 ++ wsX6_takeTask_r2) ++ wsX60 ++ wsX10 ++ wsX00)
def wsX6_step_r1 : List Cond := [Cond.fieldLink RX6 35 "ParallelUndo$Workers" "task" "[I", Cond.methodLink RX6 106 yX6_goOn, Cond.instanceMethod yX6_goOn, Cond.selects RX6 yX6_goOn yX6_goOn, Cond.initialized RX6, Cond.code yX6_goOn cX6_goOn 6 none, Cond.fieldLink RX6 38 "ParallelUndo$Workers" "taskCall" "[I", Cond.fieldLink RX6 12 "ParallelUndo$Workers" "bench" "LParallelUndo$Bench;", Cond.fieldLink RX6 123 "ParallelUndo$Bench" "attempts" "[LParallelUndo$Attempt;", Cond.fieldLink RX6 132 "ParallelUndo$Bench" "table" "LParallelUndo$Table;", Cond.methodLink RX6 136 yX0_doNext, Cond.instanceMethod yX0_doNext, Cond.selects RX0 yX0_doNext yX0_doNext, Cond.initialized RX0, Cond.code yX0_doNext cX0_doNext 10 (some .int), Cond.fieldLink RX0 34 "ParallelUndo$Attempt" "self" "I", Cond.fieldLink RX0 44 "ParallelUndo$Attempt" "next" "I", Cond.fieldLink RX0 88 "ParallelUndo$Block" "kind" "[I", Cond.fieldLink RX0 91 "ParallelUndo$Block" "first" "[I", Cond.fieldLink RX0 94 "ParallelUndo$Block" "second" "[I", Cond.fieldLink RX0 97 "ParallelUndo$Block" "value" "[J", Cond.fieldLink RX0 47 "ParallelUndo$Attempt" "done" "I", Cond.fieldLink RX0 41 "ParallelUndo$Attempt" "doneInAll" "I", Cond.methodLink RX0 84 yX0_isOver]
def wsX6_step_r2 : List Cond := [Cond.instanceMethod yX0_isOver, Cond.selects RX0 yX0_isOver yX0_isOver, Cond.code yX0_isOver cX0_isOver 2 (some .boolean), Cond.fieldLink RX0 50 "ParallelUndo$Attempt" "failed" "Z", Cond.methodLink RX0 72 yX2_hasAct, Cond.instanceMethod yX2_hasAct, Cond.selects RX2 yX2_hasAct yX2_hasAct, Cond.initialized RX2, Cond.code yX2_hasAct cX2_hasAct 3 (some .boolean), Cond.fieldLink RX2 28 "ParallelUndo$Block" "calls" "I", Cond.fieldLink RX2 9 "ParallelUndo$Block" "acts" "[I", Cond.methodLink RX0 102 yX0_leafAt, Cond.instanceMethod yX0_leafAt, Cond.selects RX0 yX0_leafAt yX0_leafAt, Cond.code yX0_leafAt cX0_leafAt 4 (some .int), Cond.fieldLink RX0 18 "ParallelUndo$Attempt" "register" "[J", Cond.constantLong RX0 114 (31), Cond.methodLink RX0 106 yX0_read, Cond.instanceMethod yX0_read, Cond.selects RX0 yX0_read yX0_read, Cond.code yX0_read cX0_read 5 (some .int), Cond.fieldLink RX0 9 "ParallelUndo$Attempt" "written" "[J", Cond.fieldLink RX0 57 "ParallelUndo$Attempt" "keptMask" "I", Cond.fieldLink RX0 21 "ParallelUndo$Attempt" "keptValue" "[J"]
def wsX6_step_r3 : List Cond := [Cond.methodLink RX0 116 yX0_hasWritten, Cond.instanceMethod yX0_hasWritten, Cond.selects RX0 yX0_hasWritten yX0_hasWritten, Cond.code yX0_hasWritten cX0_hasWritten 2 (some .boolean), Cond.fieldLink RX0 60 "ParallelUndo$Attempt" "writtenMask" "I", Cond.methodLink RX0 120 yX5_writerBelow, Cond.instanceMethod yX5_writerBelow, Cond.selects RX5 yX5_writerBelow yX5_writerBelow, Cond.initialized RX5, Cond.code yX5_writerBelow cX5_writerBelow 4 (some .int), Cond.fieldLink RX5 15 "ParallelUndo$Table" "state" "[I", Cond.methodLink RX0 126 yX5_isPerhaps, Cond.instanceMethod yX5_isPerhaps, Cond.selects RX5 yX5_isPerhaps yX5_isPerhaps, Cond.code yX5_isPerhaps cX5_isPerhaps 3 (some .boolean), Cond.methodLink RX0 129 yX5_numberOf, Cond.instanceMethod yX5_numberOf, Cond.selects RX5 yX5_numberOf yX5_numberOf, Cond.code yX5_numberOf cX5_numberOf 3 (some .int), Cond.fieldLink RX5 19 "ParallelUndo$Table" "number" "[I", Cond.methodLink RX0 132 yX5_valueOf, Cond.instanceMethod yX5_valueOf, Cond.selects RX5 yX5_valueOf yX5_valueOf, Cond.code yX5_valueOf cX5_valueOf 3 (some .long)]
def wsX6_step_r4 : List Cond := [Cond.fieldLink RX5 9 "ParallelUndo$Table" "before" "[J", Cond.fieldLink RX5 22 "ParallelUndo$Table" "value" "[J", Cond.methodLink RX0 136 yX0_keep, Cond.instanceMethod yX0_keep, Cond.selects RX0 yX0_keep yX0_keep, Cond.code yX0_keep cX0_keep 6 none, Cond.fieldLink RX0 54 "ParallelUndo$Attempt" "kept" "I", Cond.fieldLink RX0 24 "ParallelUndo$Attempt" "keptLeaf" "[I", Cond.fieldLink RX0 28 "ParallelUndo$Attempt" "keptWriter" "[I", Cond.fieldLink RX0 31 "ParallelUndo$Attempt" "keptNumber" "[I", Cond.methodLink RX0 110 yX0_perform, Cond.instanceMethod yX0_perform, Cond.selects RX0 yX0_perform yX0_perform, Cond.code yX0_perform cX0_perform 6 none, Cond.methodLink RX0 139 yX0_write, Cond.instanceMethod yX0_write, Cond.selects RX0 yX0_write yX0_write, Cond.code yX0_write cX0_write 4 none, Cond.methodLink RX0 143 yX0_raise, Cond.instanceMethod yX0_raise, Cond.selects RX0 yX0_raise yX0_raise, Cond.code yX0_raise cX0_raise 3 none, Cond.fieldLink RX0 63 "ParallelUndo$Attempt" "eventCount" "I", Cond.fieldLink RX0 15 "ParallelUndo$Attempt" "eventValue" "[J"]
def wsX6_step_r5 : List Cond := [Cond.methodLink RX0 147 yX0_fail, Cond.instanceMethod yX0_fail, Cond.selects RX0 yX0_fail yX0_fail, Cond.code yX0_fail cX0_fail 1 none, Cond.methodLink RX6 140 yX6_giveUp, Cond.instanceMethod yX6_giveUp, Cond.selects RX6 yX6_giveUp yX6_giveUp, Cond.code yX6_giveUp cX6_giveUp 4 none, Cond.fieldLink RX6 25 "ParallelUndo$Workers" "status" "[I", Cond.fieldLink RX6 29 "ParallelUndo$Workers" "awaited" "[I", Cond.fieldLink RX6 61 "ParallelUndo$Workers" "givenUp" "I", Cond.fieldLink RX6 21 "ParallelUndo$Workers" "conflicts" "LParallelUndo$Conflicts;", Cond.methodLink RX6 151 yX3_note, Cond.instanceMethod yX3_note, Cond.selects RX3 yX3_note yX3_note, Cond.initialized RX3, Cond.code yX3_note cX3_note 3 none, Cond.fieldLink RX3 16 "ParallelUndo$Conflicts" "count" "I", Cond.fieldLink RX3 9 "ParallelUndo$Conflicts" "hit" "[I", Cond.fieldLink RX3 13 "ParallelUndo$Conflicts" "by" "[I", Cond.methodLink RX6 144 yX0_isOver, Cond.methodLink RX6 148 yX6_end, Cond.instanceMethod yX6_end, Cond.selects RX6 yX6_end yX6_end]
def wsX6_step_r6 : List Cond := [Cond.code yX6_end cX6_end 4 none, Cond.fieldLink RX6 32 "ParallelUndo$Workers" "number" "[I", Cond.fieldLink RX6 77 "ParallelUndo$Workers" "lookRow" "I", Cond.methodLink RX6 154 yX5_publish, Cond.instanceMethod yX5_publish, Cond.selects RX5 yX5_publish yX5_publish, Cond.code yX5_publish cX5_publish 6 (some .boolean), Cond.fieldLink RX5 45 "ParallelUndo$Attempt" "self" "I", Cond.fieldLink RX5 55 "ParallelUndo$Attempt" "written" "[J", Cond.methodLink RX5 51 yX0_hasWritten, Cond.methodLink RX6 160 yX6_wakeThoseWaitingFor, Cond.instanceMethod yX6_wakeThoseWaitingFor, Cond.selects RX6 yX6_wakeThoseWaitingFor yX6_wakeThoseWaitingFor, Cond.code yX6_wakeThoseWaitingFor cX6_wakeThoseWaitingFor 3 none, Cond.fieldLink RX6 103 "ParallelUndo$Bench" "calls" "I", Cond.fieldLink RX6 74 "ParallelUndo$Workers" "runRow" "I", Cond.methodLink RX6 163 Lib.Math.min.name, Cond.static Lib.Math.min.name, Cond.initialized "java/lang/Math", Cond.code Lib.Math.min.name Lib.Math.min.code 2 (some .int), Cond.methodLink RX6 116 yX6_giveLook, Cond.instanceMethod yX6_giveLook, Cond.selects RX6 yX6_giveLook yX6_giveLook, Cond.code yX6_giveLook cX6_giveLook 3 none]
def wsX6_step_r7 : List Cond := [Cond.fieldLink RX6 41 "ParallelUndo$Workers" "taskNumber" "[I", Cond.methodLink RX6 109 yX6_look, Cond.instanceMethod yX6_look, Cond.selects RX6 yX6_look yX6_look, Cond.code yX6_look cX6_look 4 none, Cond.fieldLink RX6 55 "ParallelUndo$Workers" "looks" "I", Cond.fieldLink RX6 64 "ParallelUndo$Workers" "fell" "Z", Cond.methodLink RX6 169 yX0_firstChanged, Cond.instanceMethod yX0_firstChanged, Cond.selects RX0 yX0_firstChanged yX0_firstChanged, Cond.code yX0_firstChanged cX0_firstChanged 5 (some .int), Cond.methodLink RX6 173 yX5_writerBelow, Cond.methodLink RX6 176 yX6_undo, Cond.instanceMethod yX6_undo, Cond.selects RX6 yX6_undo yX6_undo, Cond.code yX6_undo cX6_undo 2 none, Cond.fieldLink RX6 58 "ParallelUndo$Workers" "undone" "I", Cond.fieldLink RX6 71 "ParallelUndo$Workers" "fallBound" "I", Cond.methodLink RX6 179 yX5_doubt, Cond.instanceMethod yX5_doubt, Cond.selects RX5 yX5_doubt yX5_doubt, Cond.code yX5_doubt cX5_doubt 3 none, Cond.methodLink RX6 120 yX6_giveRun, Cond.instanceMethod yX6_giveRun]
def wsX6_step_r8 : List Cond := [Cond.selects RX6 yX6_giveRun yX6_giveRun, Cond.code yX6_giveRun cX6_giveRun 3 none, Cond.methodLink RX6 127 yX0_begin, Cond.instanceMethod yX0_begin, Cond.selects RX0 yX0_begin yX0_begin, Cond.code yX0_begin cX0_begin 1 none, Cond.fieldLink RX0 38 "ParallelUndo$Attempt" "began" "I", Cond.methodLink RX0 66 yJ7_fill_d0a16, Cond.static yJ7_fill_d0a16, Cond.initialized RJ7, Cond.code yJ7_fill_d0a16 cJ7_fill_d0a16 5 none, Cond.methodLink RX6 113 yX6_takeTask, Cond.instanceMethod yX6_takeTask, Cond.selects RX6 yX6_takeTask yX6_takeTask, Cond.code yX6_takeTask cX6_takeTask 3 none]
def wsX6_step : List Cond := .code yX6_step cX6_step 3 none :: ((wsX6_step_r1 ++ (wsX6_step_r2 ++ (wsX6_step_r3 ++ (wsX6_step_r4 ++ (wsX6_step_r5 ++ (wsX6_step_r6 ++ (wsX6_step_r7 ++ wsX6_step_r8))))))) ++ wsX60 ++ wsX10 ++ wsX00 ++ wsX20 ++ wsX50 ++ wsX30)
def wsX6_work_r1 : List Cond := [Cond.fieldLink RX6 52 "ParallelUndo$Workers" "turns" "I", Cond.constant RX6 86 (1000000), Cond.fieldLink RX6 68 "ParallelUndo$Workers" "size" "I", Cond.fieldLink RX6 64 "ParallelUndo$Workers" "fell" "Z", Cond.constant RX6 91 (1103515245), Cond.fieldLink RX6 12 "ParallelUndo$Workers" "bench" "LParallelUndo$Bench;", Cond.methodLink RX6 87 yX6_isDone, Cond.instanceMethod yX6_isDone, Cond.selects RX6 yX6_isDone yX6_isDone, Cond.initialized RX6, Cond.code yX6_isDone cX6_isDone 2 (some .boolean), Cond.fieldLink RX6 74 "ParallelUndo$Workers" "runRow" "I", Cond.fieldLink RX6 103 "ParallelUndo$Bench" "calls" "I", Cond.fieldLink RX6 77 "ParallelUndo$Workers" "lookRow" "I", Cond.fieldLink RX6 35 "ParallelUndo$Workers" "task" "[I", Cond.methodLink RX6 92 yX6_step, Cond.instanceMethod yX6_step, Cond.selects RX6 yX6_step yX6_step, Cond.code yX6_step cX6_step 3 none, Cond.methodLink RX6 106 yX6_goOn, Cond.instanceMethod yX6_goOn, Cond.selects RX6 yX6_goOn yX6_goOn, Cond.code yX6_goOn cX6_goOn 6 none, Cond.fieldLink RX6 38 "ParallelUndo$Workers" "taskCall" "[I"]
def wsX6_work_r2 : List Cond := [Cond.fieldLink RX6 123 "ParallelUndo$Bench" "attempts" "[LParallelUndo$Attempt;", Cond.fieldLink RX6 132 "ParallelUndo$Bench" "table" "LParallelUndo$Table;", Cond.methodLink RX6 136 yX0_doNext, Cond.instanceMethod yX0_doNext, Cond.selects RX0 yX0_doNext yX0_doNext, Cond.initialized RX0, Cond.code yX0_doNext cX0_doNext 10 (some .int), Cond.fieldLink RX0 34 "ParallelUndo$Attempt" "self" "I", Cond.fieldLink RX0 44 "ParallelUndo$Attempt" "next" "I", Cond.fieldLink RX0 88 "ParallelUndo$Block" "kind" "[I", Cond.fieldLink RX0 91 "ParallelUndo$Block" "first" "[I", Cond.fieldLink RX0 94 "ParallelUndo$Block" "second" "[I", Cond.fieldLink RX0 97 "ParallelUndo$Block" "value" "[J", Cond.fieldLink RX0 47 "ParallelUndo$Attempt" "done" "I", Cond.fieldLink RX0 41 "ParallelUndo$Attempt" "doneInAll" "I", Cond.methodLink RX0 84 yX0_isOver, Cond.instanceMethod yX0_isOver, Cond.selects RX0 yX0_isOver yX0_isOver, Cond.code yX0_isOver cX0_isOver 2 (some .boolean), Cond.fieldLink RX0 50 "ParallelUndo$Attempt" "failed" "Z", Cond.methodLink RX0 72 yX2_hasAct, Cond.instanceMethod yX2_hasAct, Cond.selects RX2 yX2_hasAct yX2_hasAct, Cond.initialized RX2]
def wsX6_work_r3 : List Cond := [Cond.code yX2_hasAct cX2_hasAct 3 (some .boolean), Cond.fieldLink RX2 28 "ParallelUndo$Block" "calls" "I", Cond.fieldLink RX2 9 "ParallelUndo$Block" "acts" "[I", Cond.methodLink RX0 102 yX0_leafAt, Cond.instanceMethod yX0_leafAt, Cond.selects RX0 yX0_leafAt yX0_leafAt, Cond.code yX0_leafAt cX0_leafAt 4 (some .int), Cond.fieldLink RX0 18 "ParallelUndo$Attempt" "register" "[J", Cond.constantLong RX0 114 (31), Cond.methodLink RX0 106 yX0_read, Cond.instanceMethod yX0_read, Cond.selects RX0 yX0_read yX0_read, Cond.code yX0_read cX0_read 5 (some .int), Cond.fieldLink RX0 9 "ParallelUndo$Attempt" "written" "[J", Cond.fieldLink RX0 57 "ParallelUndo$Attempt" "keptMask" "I", Cond.fieldLink RX0 21 "ParallelUndo$Attempt" "keptValue" "[J", Cond.methodLink RX0 116 yX0_hasWritten, Cond.instanceMethod yX0_hasWritten, Cond.selects RX0 yX0_hasWritten yX0_hasWritten, Cond.code yX0_hasWritten cX0_hasWritten 2 (some .boolean), Cond.fieldLink RX0 60 "ParallelUndo$Attempt" "writtenMask" "I", Cond.methodLink RX0 120 yX5_writerBelow, Cond.instanceMethod yX5_writerBelow, Cond.selects RX5 yX5_writerBelow yX5_writerBelow]
def wsX6_work_r4 : List Cond := [Cond.initialized RX5, Cond.code yX5_writerBelow cX5_writerBelow 4 (some .int), Cond.fieldLink RX5 15 "ParallelUndo$Table" "state" "[I", Cond.methodLink RX0 126 yX5_isPerhaps, Cond.instanceMethod yX5_isPerhaps, Cond.selects RX5 yX5_isPerhaps yX5_isPerhaps, Cond.code yX5_isPerhaps cX5_isPerhaps 3 (some .boolean), Cond.methodLink RX0 129 yX5_numberOf, Cond.instanceMethod yX5_numberOf, Cond.selects RX5 yX5_numberOf yX5_numberOf, Cond.code yX5_numberOf cX5_numberOf 3 (some .int), Cond.fieldLink RX5 19 "ParallelUndo$Table" "number" "[I", Cond.methodLink RX0 132 yX5_valueOf, Cond.instanceMethod yX5_valueOf, Cond.selects RX5 yX5_valueOf yX5_valueOf, Cond.code yX5_valueOf cX5_valueOf 3 (some .long), Cond.fieldLink RX5 9 "ParallelUndo$Table" "before" "[J", Cond.fieldLink RX5 22 "ParallelUndo$Table" "value" "[J", Cond.methodLink RX0 136 yX0_keep, Cond.instanceMethod yX0_keep, Cond.selects RX0 yX0_keep yX0_keep, Cond.code yX0_keep cX0_keep 6 none, Cond.fieldLink RX0 54 "ParallelUndo$Attempt" "kept" "I", Cond.fieldLink RX0 24 "ParallelUndo$Attempt" "keptLeaf" "[I"]
def wsX6_work_r5 : List Cond := [Cond.fieldLink RX0 28 "ParallelUndo$Attempt" "keptWriter" "[I", Cond.fieldLink RX0 31 "ParallelUndo$Attempt" "keptNumber" "[I", Cond.methodLink RX0 110 yX0_perform, Cond.instanceMethod yX0_perform, Cond.selects RX0 yX0_perform yX0_perform, Cond.code yX0_perform cX0_perform 6 none, Cond.methodLink RX0 139 yX0_write, Cond.instanceMethod yX0_write, Cond.selects RX0 yX0_write yX0_write, Cond.code yX0_write cX0_write 4 none, Cond.methodLink RX0 143 yX0_raise, Cond.instanceMethod yX0_raise, Cond.selects RX0 yX0_raise yX0_raise, Cond.code yX0_raise cX0_raise 3 none, Cond.fieldLink RX0 63 "ParallelUndo$Attempt" "eventCount" "I", Cond.fieldLink RX0 15 "ParallelUndo$Attempt" "eventValue" "[J", Cond.methodLink RX0 147 yX0_fail, Cond.instanceMethod yX0_fail, Cond.selects RX0 yX0_fail yX0_fail, Cond.code yX0_fail cX0_fail 1 none, Cond.methodLink RX6 140 yX6_giveUp, Cond.instanceMethod yX6_giveUp, Cond.selects RX6 yX6_giveUp yX6_giveUp, Cond.code yX6_giveUp cX6_giveUp 4 none]
def wsX6_work_r6 : List Cond := [Cond.fieldLink RX6 25 "ParallelUndo$Workers" "status" "[I", Cond.fieldLink RX6 29 "ParallelUndo$Workers" "awaited" "[I", Cond.fieldLink RX6 61 "ParallelUndo$Workers" "givenUp" "I", Cond.fieldLink RX6 21 "ParallelUndo$Workers" "conflicts" "LParallelUndo$Conflicts;", Cond.methodLink RX6 151 yX3_note, Cond.instanceMethod yX3_note, Cond.selects RX3 yX3_note yX3_note, Cond.initialized RX3, Cond.code yX3_note cX3_note 3 none, Cond.fieldLink RX3 16 "ParallelUndo$Conflicts" "count" "I", Cond.fieldLink RX3 9 "ParallelUndo$Conflicts" "hit" "[I", Cond.fieldLink RX3 13 "ParallelUndo$Conflicts" "by" "[I", Cond.methodLink RX6 144 yX0_isOver, Cond.methodLink RX6 148 yX6_end, Cond.instanceMethod yX6_end, Cond.selects RX6 yX6_end yX6_end, Cond.code yX6_end cX6_end 4 none, Cond.fieldLink RX6 32 "ParallelUndo$Workers" "number" "[I", Cond.methodLink RX6 154 yX5_publish, Cond.instanceMethod yX5_publish, Cond.selects RX5 yX5_publish yX5_publish, Cond.code yX5_publish cX5_publish 6 (some .boolean), Cond.fieldLink RX5 45 "ParallelUndo$Attempt" "self" "I", Cond.fieldLink RX5 55 "ParallelUndo$Attempt" "written" "[J"]
def wsX6_work_r7 : List Cond := [Cond.methodLink RX5 51 yX0_hasWritten, Cond.methodLink RX6 160 yX6_wakeThoseWaitingFor, Cond.instanceMethod yX6_wakeThoseWaitingFor, Cond.selects RX6 yX6_wakeThoseWaitingFor yX6_wakeThoseWaitingFor, Cond.code yX6_wakeThoseWaitingFor cX6_wakeThoseWaitingFor 3 none, Cond.methodLink RX6 163 Lib.Math.min.name, Cond.static Lib.Math.min.name, Cond.initialized "java/lang/Math", Cond.code Lib.Math.min.name Lib.Math.min.code 2 (some .int), Cond.methodLink RX6 116 yX6_giveLook, Cond.instanceMethod yX6_giveLook, Cond.selects RX6 yX6_giveLook yX6_giveLook, Cond.code yX6_giveLook cX6_giveLook 3 none, Cond.fieldLink RX6 41 "ParallelUndo$Workers" "taskNumber" "[I", Cond.methodLink RX6 109 yX6_look, Cond.instanceMethod yX6_look, Cond.selects RX6 yX6_look yX6_look, Cond.code yX6_look cX6_look 4 none, Cond.fieldLink RX6 55 "ParallelUndo$Workers" "looks" "I", Cond.methodLink RX6 169 yX0_firstChanged, Cond.instanceMethod yX0_firstChanged, Cond.selects RX0 yX0_firstChanged yX0_firstChanged, Cond.code yX0_firstChanged cX0_firstChanged 5 (some .int), Cond.methodLink RX6 173 yX5_writerBelow]
def wsX6_work_r8 : List Cond := [Cond.methodLink RX6 176 yX6_undo, Cond.instanceMethod yX6_undo, Cond.selects RX6 yX6_undo yX6_undo, Cond.code yX6_undo cX6_undo 2 none, Cond.fieldLink RX6 58 "ParallelUndo$Workers" "undone" "I", Cond.fieldLink RX6 71 "ParallelUndo$Workers" "fallBound" "I", Cond.methodLink RX6 179 yX5_doubt, Cond.instanceMethod yX5_doubt, Cond.selects RX5 yX5_doubt yX5_doubt, Cond.code yX5_doubt cX5_doubt 3 none, Cond.methodLink RX6 120 yX6_giveRun, Cond.instanceMethod yX6_giveRun, Cond.selects RX6 yX6_giveRun yX6_giveRun, Cond.code yX6_giveRun cX6_giveRun 3 none, Cond.methodLink RX6 127 yX0_begin, Cond.instanceMethod yX0_begin, Cond.selects RX0 yX0_begin yX0_begin, Cond.code yX0_begin cX0_begin 1 none, Cond.fieldLink RX0 38 "ParallelUndo$Attempt" "began" "I", Cond.methodLink RX0 66 yJ7_fill_d0a16, Cond.static yJ7_fill_d0a16, Cond.initialized RJ7, Cond.code yJ7_fill_d0a16 cJ7_fill_d0a16 5 none, Cond.methodLink RX6 113 yX6_takeTask]
def wsX6_work_r9 : List Cond := [Cond.instanceMethod yX6_takeTask, Cond.selects RX6 yX6_takeTask yX6_takeTask, Cond.code yX6_takeTask cX6_takeTask 3 none, Cond.methodLink RX6 96 yX1_runOneByOne, Cond.instanceMethod yX1_runOneByOne, Cond.selects RX1 yX1_runOneByOne yX1_runOneByOne, Cond.initialized RX1, Cond.code yX1_runOneByOne cX1_runOneByOne 5 none, Cond.fieldLink RX1 33 "ParallelUndo$Bench" "calls" "I", Cond.fieldLink RX1 20 "ParallelUndo$Bench" "attempts" "[LParallelUndo$Attempt;", Cond.fieldLink RX1 12 "ParallelUndo$Bench" "table" "LParallelUndo$Table;", Cond.methodLink RX1 40 yX0_begin, Cond.methodLink RX1 43 yX0_isOver, Cond.methodLink RX1 47 yX0_doNext, Cond.methodLink RX1 51 yX5_publish, Cond.methodLink RX6 100 yX1_formGroups, Cond.instanceMethod yX1_formGroups, Cond.selects RX1 yX1_formGroups yX1_formGroups, Cond.code yX1_formGroups cX1_formGroups 2 none, Cond.fieldLink RX1 55 "ParallelUndo$Attempt" "group" "I", Cond.methodLink RX1 58 yX1_joinTouching, Cond.instanceMethod yX1_joinTouching, Cond.selects RX1 yX1_joinTouching yX1_joinTouching, Cond.code yX1_joinTouching cX1_joinTouching 4 none]
def wsX6_work_r10 : List Cond := [Cond.methodLink RX1 61 yX0_touched, Cond.instanceMethod yX0_touched, Cond.selects RX0 yX0_touched yX0_touched, Cond.code yX0_touched cX0_touched 2 (some .boolean), Cond.methodLink RX1 65 yX1_joinGroups, Cond.instanceMethod yX1_joinGroups, Cond.selects RX1 yX1_joinGroups yX1_joinGroups, Cond.code yX1_joinGroups cX1_joinGroups 6 none, Cond.methodLink RX1 69 Lib.Math.min.name]
def wsX6_work : List Cond := .code yX6_work cX6_work 4 none :: ((wsX6_work_r1 ++ (wsX6_work_r2 ++ (wsX6_work_r3 ++ (wsX6_work_r4 ++ (wsX6_work_r5 ++ (wsX6_work_r6 ++ (wsX6_work_r7 ++ (wsX6_work_r8 ++ (wsX6_work_r9 ++ wsX6_work_r10))))))))) ++ wsX60 ++ wsX10 ++ wsX00 ++ wsX20 ++ wsX50 ++ wsX30)
def wsX6_tell : List Cond := .code yX6_tell cX6_tell 2 (some .int) :: ([.fieldLink RX6 52 "ParallelUndo$Workers" "turns" "I", .fieldLink RX6 64 "ParallelUndo$Workers" "fell" "Z", .fieldLink RX6 55 "ParallelUndo$Workers" "looks" "I", .fieldLink RX6 58 "ParallelUndo$Workers" "undone" "I", .fieldLink RX6 61 "ParallelUndo$Workers" "givenUp" "I", .fieldLink RX6 12 "ParallelUndo$Workers" "bench" "LParallelUndo$Bench;", .fieldLink RX6 103 "ParallelUndo$Bench" "calls" "I", .methodLink RX6 182 yX1_countActs, .instanceMethod yX1_countActs, .selects RX1 yX1_countActs yX1_countActs, .initialized RX1, .code yX1_countActs cX1_countActs 3 (some .int), .fieldLink RX1 33 "ParallelUndo$Bench" "calls" "I", .fieldLink RX1 20 "ParallelUndo$Bench" "attempts" "[LParallelUndo$Attempt;", .fieldLink RX1 75 "ParallelUndo$Attempt" "doneInAll" "I", .methodLink RX6 186 yX1_countGroups, .instanceMethod yX1_countGroups, .selects RX1 yX1_countGroups yX1_countGroups, .code yX1_countGroups cX1_countGroups 3 (some .int), .fieldLink RX1 55 "ParallelUndo$Attempt" "group" "I"] ++ wsX60 ++ wsX10 ++ wsX00)
def wsX7_init_r1 : List Cond := [Cond.methodLink RX7 1 objectInit, Cond.instanceMethod objectInit, Cond.code objectInit ⟨#[0xb1]⟩ 1 none, Cond.arrayClass .long, Cond.fieldLink RX7 9 "ParallelUndo" "leaves" "[J", Cond.classLink RX7 13 RX2, Cond.instantiable RX2 6, Cond.initialized RX2, Cond.fieldLink RX7 16 "ParallelUndo" "block" "LParallelUndo$Block;", Cond.classLink RX7 20 RX6, Cond.instantiable RX6 17, Cond.initialized RX6, Cond.fieldLink RX7 23 "ParallelUndo" "latest" "LParallelUndo$Workers;", Cond.classLink RX7 27 RX1, Cond.instantiable RX1 3, Cond.initialized RX1, Cond.fieldLink RX7 30 "ParallelUndo" "trial" "LParallelUndo$Bench;", Cond.fieldLink RX7 34 "ParallelUndo" "fallBound" "I", Cond.instanceMethod yX2_init, Cond.code yX2_init cX2_init 1 none, Cond.methodLink RX2 3 objectInit, Cond.arrayClass .int, Cond.fieldLink RX2 9 "ParallelUndo$Block" "acts" "[I", Cond.fieldLink RX2 15 "ParallelUndo$Block" "kind" "[I"]
def wsX7_init_r2 : List Cond := [Cond.fieldLink RX2 18 "ParallelUndo$Block" "first" "[I", Cond.fieldLink RX2 21 "ParallelUndo$Block" "second" "[I", Cond.fieldLink RX2 24 "ParallelUndo$Block" "value" "[J", Cond.instanceMethod yX6_init, Cond.code yX6_init cX6_init 1 none, Cond.methodLink RX6 3 objectInit, Cond.classLink RX6 9 RX1, Cond.fieldLink RX6 12 "ParallelUndo$Workers" "bench" "LParallelUndo$Bench;", Cond.classLink RX6 18 RX3, Cond.instantiable RX3 3, Cond.initialized RX3, Cond.fieldLink RX6 21 "ParallelUndo$Workers" "conflicts" "LParallelUndo$Conflicts;", Cond.fieldLink RX6 25 "ParallelUndo$Workers" "status" "[I", Cond.fieldLink RX6 29 "ParallelUndo$Workers" "awaited" "[I", Cond.fieldLink RX6 32 "ParallelUndo$Workers" "number" "[I", Cond.fieldLink RX6 35 "ParallelUndo$Workers" "task" "[I", Cond.fieldLink RX6 38 "ParallelUndo$Workers" "taskCall" "[I", Cond.fieldLink RX6 41 "ParallelUndo$Workers" "taskNumber" "[I", Cond.methodLink RX6 11 yX1_init, Cond.instanceMethod yX1_init, Cond.code yX1_init cX1_init 2 none, Cond.methodLink RX1 3 objectInit, Cond.classLink RX1 9 RX5, Cond.instantiable RX5 4]
def wsX7_init_r3 : List Cond := [Cond.initialized RX5, Cond.fieldLink RX1 12 "ParallelUndo$Bench" "table" "LParallelUndo$Table;", Cond.classLink RX1 18 RX0, Cond.fieldLink RX1 20 "ParallelUndo$Bench" "attempts" "[LParallelUndo$Attempt;", Cond.instantiable RX0 18, Cond.initialized RX0, Cond.instanceMethod yX5_init, Cond.code yX5_init cX5_init 1 none, Cond.methodLink RX5 3 objectInit, Cond.fieldLink RX5 9 "ParallelUndo$Table" "before" "[J", Cond.fieldLink RX5 15 "ParallelUndo$Table" "state" "[I", Cond.fieldLink RX5 19 "ParallelUndo$Table" "number" "[I", Cond.fieldLink RX5 22 "ParallelUndo$Table" "value" "[J", Cond.methodLink RX1 24 yX0_init, Cond.instanceMethod yX0_init, Cond.code yX0_init cX0_init 2 none, Cond.methodLink RX0 3 objectInit, Cond.fieldLink RX0 9 "ParallelUndo$Attempt" "written" "[J", Cond.fieldLink RX0 15 "ParallelUndo$Attempt" "eventValue" "[J", Cond.fieldLink RX0 18 "ParallelUndo$Attempt" "register" "[J", Cond.fieldLink RX0 21 "ParallelUndo$Attempt" "keptValue" "[J", Cond.fieldLink RX0 24 "ParallelUndo$Attempt" "keptLeaf" "[I", Cond.fieldLink RX0 28 "ParallelUndo$Attempt" "keptWriter" "[I", Cond.fieldLink RX0 31 "ParallelUndo$Attempt" "keptNumber" "[I"]
def wsX7_init_r4 : List Cond := [Cond.fieldLink RX0 34 "ParallelUndo$Attempt" "self" "I", Cond.instanceMethod yX3_init, Cond.code yX3_init cX3_init 1 none, Cond.methodLink RX3 1 objectInit, Cond.fieldLink RX3 9 "ParallelUndo$Conflicts" "hit" "[I", Cond.fieldLink RX3 13 "ParallelUndo$Conflicts" "by" "[I", Cond.methodLink RX7 29 yX1_init]
def wsX7_init : List Cond := .code yX7_init cX7_init 1 none :: ((wsX7_init_r1 ++ (wsX7_init_r2 ++ (wsX7_init_r3 ++ wsX7_init_r4))) ++ wsX70 ++ wsX20 ++ wsX60 ++ wsX10 ++ wsX30 ++ wsX50 ++ wsX00)
def wsX7_call : List Cond := .code yX7_call cX7_call 1 (some .int) :: ([.fieldLink RX7 16 "ParallelUndo" "block" "LParallelUndo$Block;", .methodLink RX7 38 yX2_addCall, .instanceMethod yX2_addCall, .selects RX2 yX2_addCall yX2_addCall, .initialized RX2, .code yX2_addCall cX2_addCall 1 (some .int), .fieldLink RX2 28 "ParallelUndo$Block" "calls" "I", .fieldLink RX2 9 "ParallelUndo$Block" "acts" "[I"] ++ wsX70 ++ wsX20)
def wsX7_act_r1 : List Cond := [Cond.fieldLink RX7 16 "ParallelUndo" "block" "LParallelUndo$Block;", Cond.methodLink RX7 42 yX4_allows, Cond.static yX4_allows, Cond.initialized RX4, Cond.code yX4_allows cX4_allows 5 (some .boolean), Cond.methodLink RX4 11 yX4_isRegister, Cond.static yX4_isRegister, Cond.code yX4_isRegister cX4_isRegister 1 (some .boolean), Cond.methodLink RX4 15 yX4_hasSecond, Cond.static yX4_hasSecond, Cond.code yX4_hasSecond cX4_hasSecond 1 (some .boolean), Cond.methodLink RX4 18 yX4_allowsValue, Cond.static yX4_allowsValue, Cond.code yX4_allowsValue cX4_allowsValue 3 (some .boolean), Cond.constantLong RX4 22 (12), Cond.methodLink RX7 48 yX2_addAct, Cond.instanceMethod yX2_addAct, Cond.selects RX2 yX2_addAct yX2_addAct, Cond.initialized RX2, Cond.code yX2_addAct cX2_addAct 8 (some .int), Cond.fieldLink RX2 28 "ParallelUndo$Block" "calls" "I", Cond.fieldLink RX2 9 "ParallelUndo$Block" "acts" "[I", Cond.fieldLink RX2 15 "ParallelUndo$Block" "kind" "[I", Cond.fieldLink RX2 18 "ParallelUndo$Block" "first" "[I"]
def wsX7_act_r2 : List Cond := [Cond.fieldLink RX2 21 "ParallelUndo$Block" "second" "[I", Cond.fieldLink RX2 24 "ParallelUndo$Block" "value" "[J"]
def wsX7_act : List Cond := .code yX7_act cX7_act 7 (some .int) :: ((wsX7_act_r1 ++ wsX7_act_r2) ++ wsX70 ++ wsX20)
def wsX7_clear : List Cond := .code yX7_clear cX7_clear 1 (some .int) :: ([.fieldLink RX7 16 "ParallelUndo" "block" "LParallelUndo$Block;", .methodLink RX7 52 yX2_dropCalls, .instanceMethod yX2_dropCalls, .selects RX2 yX2_dropCalls yX2_dropCalls, .initialized RX2, .code yX2_dropCalls cX2_dropCalls 2 (some .int), .fieldLink RX2 28 "ParallelUndo$Block" "calls" "I"] ++ wsX70 ++ wsX20)
def wsX7_isLeaf : List Cond := .code yX7_isLeaf cX7_isLeaf 1 (some .boolean) :: ([])
def wsX7_leaf : List Cond := .code yX7_leaf cX7_leaf 4 (some .boolean) :: ([.fieldLink RX7 9 "ParallelUndo" "leaves" "[J", .methodLink RX7 55 yX7_isLeaf, .static yX7_isLeaf, .initialized RX7, .code yX7_isLeaf cX7_isLeaf 1 (some .boolean)] ++ wsX70)
def wsX7_bound : List Cond := .code yX7_bound cX7_bound 2 (some .boolean) :: ([.fieldLink RX7 34 "ParallelUndo" "fallBound" "I"] ++ wsX70)
def wsX7_run_r1 : List Cond := [Cond.fieldLink RX7 23 "ParallelUndo" "latest" "LParallelUndo$Workers;", Cond.fieldLink RX7 16 "ParallelUndo" "block" "LParallelUndo$Block;", Cond.fieldLink RX7 9 "ParallelUndo" "leaves" "[J", Cond.fieldLink RX7 34 "ParallelUndo" "fallBound" "I", Cond.fieldLink RX7 67 "ParallelUndo$Workers" "bench" "LParallelUndo$Bench;", Cond.fieldLink RX7 70 "ParallelUndo$Bench" "table" "LParallelUndo$Table;", Cond.fieldLink RX7 80 "ParallelUndo$Workers" "turns" "I", Cond.methodLink RX7 59 yX6_open, Cond.instanceMethod yX6_open, Cond.selects RX6 yX6_open yX6_open, Cond.initialized RX6, Cond.code yX6_open cX6_open 5 none, Cond.fieldLink RX6 12 "ParallelUndo$Workers" "bench" "LParallelUndo$Bench;", Cond.fieldLink RX6 21 "ParallelUndo$Workers" "conflicts" "LParallelUndo$Conflicts;", Cond.fieldLink RX6 48 "ParallelUndo$Conflicts" "count" "I", Cond.fieldLink RX6 52 "ParallelUndo$Workers" "turns" "I", Cond.fieldLink RX6 55 "ParallelUndo$Workers" "looks" "I", Cond.fieldLink RX6 58 "ParallelUndo$Workers" "undone" "I", Cond.fieldLink RX6 61 "ParallelUndo$Workers" "givenUp" "I", Cond.fieldLink RX6 64 "ParallelUndo$Workers" "fell" "Z", Cond.fieldLink RX6 68 "ParallelUndo$Workers" "size" "I", Cond.fieldLink RX6 71 "ParallelUndo$Workers" "fallBound" "I", Cond.fieldLink RX6 74 "ParallelUndo$Workers" "runRow" "I", Cond.fieldLink RX6 77 "ParallelUndo$Workers" "lookRow" "I"]
def wsX7_run_r2 : List Cond := [Cond.fieldLink RX6 25 "ParallelUndo$Workers" "status" "[I", Cond.fieldLink RX6 29 "ParallelUndo$Workers" "awaited" "[I", Cond.fieldLink RX6 32 "ParallelUndo$Workers" "number" "[I", Cond.fieldLink RX6 35 "ParallelUndo$Workers" "task" "[I", Cond.methodLink RX6 44 yX1_open, Cond.instanceMethod yX1_open, Cond.selects RX1 yX1_open yX1_open, Cond.initialized RX1, Cond.code yX1_open cX1_open 4 none, Cond.fieldLink RX1 27 "ParallelUndo$Block" "calls" "I", Cond.fieldLink RX1 33 "ParallelUndo$Bench" "calls" "I", Cond.fieldLink RX1 12 "ParallelUndo$Bench" "table" "LParallelUndo$Table;", Cond.fieldLink RX1 20 "ParallelUndo$Bench" "attempts" "[LParallelUndo$Attempt;", Cond.methodLink RX1 34 yX5_open, Cond.instanceMethod yX5_open, Cond.selects RX5 yX5_open yX5_open, Cond.initialized RX5, Cond.code yX5_open cX5_open 2 none, Cond.fieldLink RX5 9 "ParallelUndo$Table" "before" "[J", Cond.methodLink RX5 25 arraycopyName, Cond.native arraycopyName, Cond.static arraycopyName, Cond.initialized "java/lang/System", Cond.fieldLink RX5 15 "ParallelUndo$Table" "state" "[I"]
def wsX7_run_r3 : List Cond := [Cond.methodLink RX5 31 yJ7_fill_53178, Cond.static yJ7_fill_53178, Cond.initialized RJ7, Cond.code yJ7_fill_53178 cJ7_fill_53178 4 none, Cond.methodLink RX1 38 yX0_open, Cond.instanceMethod yX0_open, Cond.selects RX0 yX0_open yX0_open, Cond.initialized RX0, Cond.code yX0_open cX0_open 1 none, Cond.fieldLink RX0 38 "ParallelUndo$Attempt" "began" "I", Cond.fieldLink RX0 41 "ParallelUndo$Attempt" "doneInAll" "I", Cond.methodLink RX6 80 yJ7_fill_53178, Cond.methodLink RX7 63 yX6_work, Cond.instanceMethod yX6_work, Cond.selects RX6 yX6_work yX6_work, Cond.code yX6_work cX6_work 4 none, Cond.constant RX6 86 (1000000), Cond.constant RX6 91 (1103515245), Cond.methodLink RX6 87 yX6_isDone, Cond.instanceMethod yX6_isDone, Cond.selects RX6 yX6_isDone yX6_isDone, Cond.code yX6_isDone cX6_isDone 2 (some .boolean), Cond.fieldLink RX6 103 "ParallelUndo$Bench" "calls" "I", Cond.methodLink RX6 92 yX6_step]
def wsX7_run_r4 : List Cond := [Cond.instanceMethod yX6_step, Cond.selects RX6 yX6_step yX6_step, Cond.code yX6_step cX6_step 3 none, Cond.methodLink RX6 106 yX6_goOn, Cond.instanceMethod yX6_goOn, Cond.selects RX6 yX6_goOn yX6_goOn, Cond.code yX6_goOn cX6_goOn 6 none, Cond.fieldLink RX6 38 "ParallelUndo$Workers" "taskCall" "[I", Cond.fieldLink RX6 123 "ParallelUndo$Bench" "attempts" "[LParallelUndo$Attempt;", Cond.fieldLink RX6 132 "ParallelUndo$Bench" "table" "LParallelUndo$Table;", Cond.methodLink RX6 136 yX0_doNext, Cond.instanceMethod yX0_doNext, Cond.selects RX0 yX0_doNext yX0_doNext, Cond.code yX0_doNext cX0_doNext 10 (some .int), Cond.fieldLink RX0 34 "ParallelUndo$Attempt" "self" "I", Cond.fieldLink RX0 44 "ParallelUndo$Attempt" "next" "I", Cond.fieldLink RX0 88 "ParallelUndo$Block" "kind" "[I", Cond.fieldLink RX0 91 "ParallelUndo$Block" "first" "[I", Cond.fieldLink RX0 94 "ParallelUndo$Block" "second" "[I", Cond.fieldLink RX0 97 "ParallelUndo$Block" "value" "[J", Cond.fieldLink RX0 47 "ParallelUndo$Attempt" "done" "I", Cond.methodLink RX0 84 yX0_isOver, Cond.instanceMethod yX0_isOver, Cond.selects RX0 yX0_isOver yX0_isOver]
def wsX7_run_r5 : List Cond := [Cond.code yX0_isOver cX0_isOver 2 (some .boolean), Cond.fieldLink RX0 50 "ParallelUndo$Attempt" "failed" "Z", Cond.methodLink RX0 72 yX2_hasAct, Cond.instanceMethod yX2_hasAct, Cond.selects RX2 yX2_hasAct yX2_hasAct, Cond.initialized RX2, Cond.code yX2_hasAct cX2_hasAct 3 (some .boolean), Cond.fieldLink RX2 28 "ParallelUndo$Block" "calls" "I", Cond.fieldLink RX2 9 "ParallelUndo$Block" "acts" "[I", Cond.methodLink RX0 102 yX0_leafAt, Cond.instanceMethod yX0_leafAt, Cond.selects RX0 yX0_leafAt yX0_leafAt, Cond.code yX0_leafAt cX0_leafAt 4 (some .int), Cond.fieldLink RX0 18 "ParallelUndo$Attempt" "register" "[J", Cond.constantLong RX0 114 (31), Cond.methodLink RX0 106 yX0_read, Cond.instanceMethod yX0_read, Cond.selects RX0 yX0_read yX0_read, Cond.code yX0_read cX0_read 5 (some .int), Cond.fieldLink RX0 9 "ParallelUndo$Attempt" "written" "[J", Cond.fieldLink RX0 57 "ParallelUndo$Attempt" "keptMask" "I", Cond.fieldLink RX0 21 "ParallelUndo$Attempt" "keptValue" "[J", Cond.methodLink RX0 116 yX0_hasWritten, Cond.instanceMethod yX0_hasWritten]
def wsX7_run_r6 : List Cond := [Cond.selects RX0 yX0_hasWritten yX0_hasWritten, Cond.code yX0_hasWritten cX0_hasWritten 2 (some .boolean), Cond.fieldLink RX0 60 "ParallelUndo$Attempt" "writtenMask" "I", Cond.methodLink RX0 120 yX5_writerBelow, Cond.instanceMethod yX5_writerBelow, Cond.selects RX5 yX5_writerBelow yX5_writerBelow, Cond.code yX5_writerBelow cX5_writerBelow 4 (some .int), Cond.methodLink RX0 126 yX5_isPerhaps, Cond.instanceMethod yX5_isPerhaps, Cond.selects RX5 yX5_isPerhaps yX5_isPerhaps, Cond.code yX5_isPerhaps cX5_isPerhaps 3 (some .boolean), Cond.methodLink RX0 129 yX5_numberOf, Cond.instanceMethod yX5_numberOf, Cond.selects RX5 yX5_numberOf yX5_numberOf, Cond.code yX5_numberOf cX5_numberOf 3 (some .int), Cond.fieldLink RX5 19 "ParallelUndo$Table" "number" "[I", Cond.methodLink RX0 132 yX5_valueOf, Cond.instanceMethod yX5_valueOf, Cond.selects RX5 yX5_valueOf yX5_valueOf, Cond.code yX5_valueOf cX5_valueOf 3 (some .long), Cond.fieldLink RX5 22 "ParallelUndo$Table" "value" "[J", Cond.methodLink RX0 136 yX0_keep, Cond.instanceMethod yX0_keep, Cond.selects RX0 yX0_keep yX0_keep]
def wsX7_run_r7 : List Cond := [Cond.code yX0_keep cX0_keep 6 none, Cond.fieldLink RX0 54 "ParallelUndo$Attempt" "kept" "I", Cond.fieldLink RX0 24 "ParallelUndo$Attempt" "keptLeaf" "[I", Cond.fieldLink RX0 28 "ParallelUndo$Attempt" "keptWriter" "[I", Cond.fieldLink RX0 31 "ParallelUndo$Attempt" "keptNumber" "[I", Cond.methodLink RX0 110 yX0_perform, Cond.instanceMethod yX0_perform, Cond.selects RX0 yX0_perform yX0_perform, Cond.code yX0_perform cX0_perform 6 none, Cond.methodLink RX0 139 yX0_write, Cond.instanceMethod yX0_write, Cond.selects RX0 yX0_write yX0_write, Cond.code yX0_write cX0_write 4 none, Cond.methodLink RX0 143 yX0_raise, Cond.instanceMethod yX0_raise, Cond.selects RX0 yX0_raise yX0_raise, Cond.code yX0_raise cX0_raise 3 none, Cond.fieldLink RX0 63 "ParallelUndo$Attempt" "eventCount" "I", Cond.fieldLink RX0 15 "ParallelUndo$Attempt" "eventValue" "[J", Cond.methodLink RX0 147 yX0_fail, Cond.instanceMethod yX0_fail, Cond.selects RX0 yX0_fail yX0_fail, Cond.code yX0_fail cX0_fail 1 none, Cond.methodLink RX6 140 yX6_giveUp]
def wsX7_run_r8 : List Cond := [Cond.instanceMethod yX6_giveUp, Cond.selects RX6 yX6_giveUp yX6_giveUp, Cond.code yX6_giveUp cX6_giveUp 4 none, Cond.methodLink RX6 151 yX3_note, Cond.instanceMethod yX3_note, Cond.selects RX3 yX3_note yX3_note, Cond.initialized RX3, Cond.code yX3_note cX3_note 3 none, Cond.fieldLink RX3 16 "ParallelUndo$Conflicts" "count" "I", Cond.fieldLink RX3 9 "ParallelUndo$Conflicts" "hit" "[I", Cond.fieldLink RX3 13 "ParallelUndo$Conflicts" "by" "[I", Cond.methodLink RX6 144 yX0_isOver, Cond.methodLink RX6 148 yX6_end, Cond.instanceMethod yX6_end, Cond.selects RX6 yX6_end yX6_end, Cond.code yX6_end cX6_end 4 none, Cond.methodLink RX6 154 yX5_publish, Cond.instanceMethod yX5_publish, Cond.selects RX5 yX5_publish yX5_publish, Cond.code yX5_publish cX5_publish 6 (some .boolean), Cond.fieldLink RX5 45 "ParallelUndo$Attempt" "self" "I", Cond.fieldLink RX5 55 "ParallelUndo$Attempt" "written" "[J", Cond.methodLink RX5 51 yX0_hasWritten, Cond.methodLink RX6 160 yX6_wakeThoseWaitingFor]
def wsX7_run_r9 : List Cond := [Cond.instanceMethod yX6_wakeThoseWaitingFor, Cond.selects RX6 yX6_wakeThoseWaitingFor yX6_wakeThoseWaitingFor, Cond.code yX6_wakeThoseWaitingFor cX6_wakeThoseWaitingFor 3 none, Cond.methodLink RX6 163 Lib.Math.min.name, Cond.static Lib.Math.min.name, Cond.initialized "java/lang/Math", Cond.code Lib.Math.min.name Lib.Math.min.code 2 (some .int), Cond.methodLink RX6 116 yX6_giveLook, Cond.instanceMethod yX6_giveLook, Cond.selects RX6 yX6_giveLook yX6_giveLook, Cond.code yX6_giveLook cX6_giveLook 3 none, Cond.fieldLink RX6 41 "ParallelUndo$Workers" "taskNumber" "[I", Cond.methodLink RX6 109 yX6_look, Cond.instanceMethod yX6_look, Cond.selects RX6 yX6_look yX6_look, Cond.code yX6_look cX6_look 4 none, Cond.methodLink RX6 169 yX0_firstChanged, Cond.instanceMethod yX0_firstChanged, Cond.selects RX0 yX0_firstChanged yX0_firstChanged, Cond.code yX0_firstChanged cX0_firstChanged 5 (some .int), Cond.methodLink RX6 173 yX5_writerBelow, Cond.methodLink RX6 176 yX6_undo, Cond.instanceMethod yX6_undo, Cond.selects RX6 yX6_undo yX6_undo]
def wsX7_run_r10 : List Cond := [Cond.code yX6_undo cX6_undo 2 none, Cond.methodLink RX6 179 yX5_doubt, Cond.instanceMethod yX5_doubt, Cond.selects RX5 yX5_doubt yX5_doubt, Cond.code yX5_doubt cX5_doubt 3 none, Cond.methodLink RX6 120 yX6_giveRun, Cond.instanceMethod yX6_giveRun, Cond.selects RX6 yX6_giveRun yX6_giveRun, Cond.code yX6_giveRun cX6_giveRun 3 none, Cond.methodLink RX6 127 yX0_begin, Cond.instanceMethod yX0_begin, Cond.selects RX0 yX0_begin yX0_begin, Cond.code yX0_begin cX0_begin 1 none, Cond.methodLink RX0 66 yJ7_fill_d0a16, Cond.static yJ7_fill_d0a16, Cond.code yJ7_fill_d0a16 cJ7_fill_d0a16 5 none, Cond.methodLink RX6 113 yX6_takeTask, Cond.instanceMethod yX6_takeTask, Cond.selects RX6 yX6_takeTask yX6_takeTask, Cond.code yX6_takeTask cX6_takeTask 3 none, Cond.methodLink RX6 96 yX1_runOneByOne, Cond.instanceMethod yX1_runOneByOne, Cond.selects RX1 yX1_runOneByOne yX1_runOneByOne, Cond.code yX1_runOneByOne cX1_runOneByOne 5 none]
def wsX7_run_r11 : List Cond := [Cond.methodLink RX1 40 yX0_begin, Cond.methodLink RX1 43 yX0_isOver, Cond.methodLink RX1 47 yX0_doNext, Cond.methodLink RX1 51 yX5_publish, Cond.methodLink RX6 100 yX1_formGroups, Cond.instanceMethod yX1_formGroups, Cond.selects RX1 yX1_formGroups yX1_formGroups, Cond.code yX1_formGroups cX1_formGroups 2 none, Cond.fieldLink RX1 55 "ParallelUndo$Attempt" "group" "I", Cond.methodLink RX1 58 yX1_joinTouching, Cond.instanceMethod yX1_joinTouching, Cond.selects RX1 yX1_joinTouching yX1_joinTouching, Cond.code yX1_joinTouching cX1_joinTouching 4 none, Cond.methodLink RX1 61 yX0_touched, Cond.instanceMethod yX0_touched, Cond.selects RX0 yX0_touched yX0_touched, Cond.code yX0_touched cX0_touched 2 (some .boolean), Cond.methodLink RX1 65 yX1_joinGroups, Cond.instanceMethod yX1_joinGroups, Cond.selects RX1 yX1_joinGroups yX1_joinGroups, Cond.code yX1_joinGroups cX1_joinGroups 6 none, Cond.methodLink RX1 69 Lib.Math.min.name, Cond.methodLink RX7 74 yX5_valueAfter, Cond.instanceMethod yX5_valueAfter]
def wsX7_run_r12 : List Cond := [Cond.selects RX5 yX5_valueAfter yX5_valueAfter, Cond.code yX5_valueAfter cX5_valueAfter 2 (some .long), Cond.methodLink RX5 37 yX5_writerBelow, Cond.methodLink RX5 41 yX5_valueOf]
def wsX7_run : List Cond := .code yX7_run cX7_run 4 (some .int) :: ((wsX7_run_r1 ++ (wsX7_run_r2 ++ (wsX7_run_r3 ++ (wsX7_run_r4 ++ (wsX7_run_r5 ++ (wsX7_run_r6 ++ (wsX7_run_r7 ++ (wsX7_run_r8 ++ (wsX7_run_r9 ++ (wsX7_run_r10 ++ (wsX7_run_r11 ++ wsX7_run_r12))))))))))) ++ wsX70 ++ wsX60 ++ wsX10 ++ wsX30 ++ wsX20 ++ wsX50 ++ wsX00)
def wsX7_at : List Cond := .code yX7_at cX7_at 2 (some .long) :: ([.fieldLink RX7 9 "ParallelUndo" "leaves" "[J", .methodLink RX7 55 yX7_isLeaf, .static yX7_isLeaf, .initialized RX7, .code yX7_isLeaf cX7_isLeaf 1 (some .boolean)] ++ wsX70)
def wsX7_inOrder_r1 : List Cond := [Cond.fieldLink RX7 30 "ParallelUndo" "trial" "LParallelUndo$Bench;", Cond.fieldLink RX7 16 "ParallelUndo" "block" "LParallelUndo$Block;", Cond.fieldLink RX7 9 "ParallelUndo" "leaves" "[J", Cond.fieldLink RX7 70 "ParallelUndo$Bench" "table" "LParallelUndo$Table;", Cond.methodLink RX7 55 yX7_isLeaf, Cond.static yX7_isLeaf, Cond.initialized RX7, Cond.code yX7_isLeaf cX7_isLeaf 1 (some .boolean), Cond.methodLink RX7 83 yX1_open, Cond.instanceMethod yX1_open, Cond.selects RX1 yX1_open yX1_open, Cond.initialized RX1, Cond.code yX1_open cX1_open 4 none, Cond.fieldLink RX1 27 "ParallelUndo$Block" "calls" "I", Cond.fieldLink RX1 33 "ParallelUndo$Bench" "calls" "I", Cond.fieldLink RX1 12 "ParallelUndo$Bench" "table" "LParallelUndo$Table;", Cond.fieldLink RX1 20 "ParallelUndo$Bench" "attempts" "[LParallelUndo$Attempt;", Cond.methodLink RX1 34 yX5_open, Cond.instanceMethod yX5_open, Cond.selects RX5 yX5_open yX5_open, Cond.initialized RX5, Cond.code yX5_open cX5_open 2 none, Cond.fieldLink RX5 9 "ParallelUndo$Table" "before" "[J", Cond.methodLink RX5 25 arraycopyName]
def wsX7_inOrder_r2 : List Cond := [Cond.native arraycopyName, Cond.static arraycopyName, Cond.initialized "java/lang/System", Cond.fieldLink RX5 15 "ParallelUndo$Table" "state" "[I", Cond.methodLink RX5 31 yJ7_fill_53178, Cond.static yJ7_fill_53178, Cond.initialized RJ7, Cond.code yJ7_fill_53178 cJ7_fill_53178 4 none, Cond.methodLink RX1 38 yX0_open, Cond.instanceMethod yX0_open, Cond.selects RX0 yX0_open yX0_open, Cond.initialized RX0, Cond.code yX0_open cX0_open 1 none, Cond.fieldLink RX0 38 "ParallelUndo$Attempt" "began" "I", Cond.fieldLink RX0 41 "ParallelUndo$Attempt" "doneInAll" "I", Cond.methodLink RX7 86 yX1_runOneByOne, Cond.instanceMethod yX1_runOneByOne, Cond.selects RX1 yX1_runOneByOne yX1_runOneByOne, Cond.code yX1_runOneByOne cX1_runOneByOne 5 none, Cond.methodLink RX1 40 yX0_begin, Cond.instanceMethod yX0_begin, Cond.selects RX0 yX0_begin yX0_begin, Cond.code yX0_begin cX0_begin 1 none, Cond.fieldLink RX0 44 "ParallelUndo$Attempt" "next" "I"]
def wsX7_inOrder_r3 : List Cond := [Cond.fieldLink RX0 47 "ParallelUndo$Attempt" "done" "I", Cond.fieldLink RX0 50 "ParallelUndo$Attempt" "failed" "Z", Cond.fieldLink RX0 54 "ParallelUndo$Attempt" "kept" "I", Cond.fieldLink RX0 57 "ParallelUndo$Attempt" "keptMask" "I", Cond.fieldLink RX0 60 "ParallelUndo$Attempt" "writtenMask" "I", Cond.fieldLink RX0 63 "ParallelUndo$Attempt" "eventCount" "I", Cond.fieldLink RX0 18 "ParallelUndo$Attempt" "register" "[J", Cond.methodLink RX0 66 yJ7_fill_d0a16, Cond.static yJ7_fill_d0a16, Cond.code yJ7_fill_d0a16 cJ7_fill_d0a16 5 none, Cond.methodLink RX1 43 yX0_isOver, Cond.instanceMethod yX0_isOver, Cond.selects RX0 yX0_isOver yX0_isOver, Cond.code yX0_isOver cX0_isOver 2 (some .boolean), Cond.fieldLink RX0 34 "ParallelUndo$Attempt" "self" "I", Cond.methodLink RX0 72 yX2_hasAct, Cond.instanceMethod yX2_hasAct, Cond.selects RX2 yX2_hasAct yX2_hasAct, Cond.initialized RX2, Cond.code yX2_hasAct cX2_hasAct 3 (some .boolean), Cond.fieldLink RX2 28 "ParallelUndo$Block" "calls" "I", Cond.fieldLink RX2 9 "ParallelUndo$Block" "acts" "[I", Cond.methodLink RX1 47 yX0_doNext, Cond.instanceMethod yX0_doNext]
def wsX7_inOrder_r4 : List Cond := [Cond.selects RX0 yX0_doNext yX0_doNext, Cond.code yX0_doNext cX0_doNext 10 (some .int), Cond.fieldLink RX0 88 "ParallelUndo$Block" "kind" "[I", Cond.fieldLink RX0 91 "ParallelUndo$Block" "first" "[I", Cond.fieldLink RX0 94 "ParallelUndo$Block" "second" "[I", Cond.fieldLink RX0 97 "ParallelUndo$Block" "value" "[J", Cond.methodLink RX0 84 yX0_isOver, Cond.methodLink RX0 102 yX0_leafAt, Cond.instanceMethod yX0_leafAt, Cond.selects RX0 yX0_leafAt yX0_leafAt, Cond.code yX0_leafAt cX0_leafAt 4 (some .int), Cond.constantLong RX0 114 (31), Cond.methodLink RX0 106 yX0_read, Cond.instanceMethod yX0_read, Cond.selects RX0 yX0_read yX0_read, Cond.code yX0_read cX0_read 5 (some .int), Cond.fieldLink RX0 9 "ParallelUndo$Attempt" "written" "[J", Cond.fieldLink RX0 21 "ParallelUndo$Attempt" "keptValue" "[J", Cond.methodLink RX0 116 yX0_hasWritten, Cond.instanceMethod yX0_hasWritten, Cond.selects RX0 yX0_hasWritten yX0_hasWritten, Cond.code yX0_hasWritten cX0_hasWritten 2 (some .boolean), Cond.methodLink RX0 120 yX5_writerBelow, Cond.instanceMethod yX5_writerBelow]
def wsX7_inOrder_r5 : List Cond := [Cond.selects RX5 yX5_writerBelow yX5_writerBelow, Cond.code yX5_writerBelow cX5_writerBelow 4 (some .int), Cond.methodLink RX0 126 yX5_isPerhaps, Cond.instanceMethod yX5_isPerhaps, Cond.selects RX5 yX5_isPerhaps yX5_isPerhaps, Cond.code yX5_isPerhaps cX5_isPerhaps 3 (some .boolean), Cond.methodLink RX0 129 yX5_numberOf, Cond.instanceMethod yX5_numberOf, Cond.selects RX5 yX5_numberOf yX5_numberOf, Cond.code yX5_numberOf cX5_numberOf 3 (some .int), Cond.fieldLink RX5 19 "ParallelUndo$Table" "number" "[I", Cond.methodLink RX0 132 yX5_valueOf, Cond.instanceMethod yX5_valueOf, Cond.selects RX5 yX5_valueOf yX5_valueOf, Cond.code yX5_valueOf cX5_valueOf 3 (some .long), Cond.fieldLink RX5 22 "ParallelUndo$Table" "value" "[J", Cond.methodLink RX0 136 yX0_keep, Cond.instanceMethod yX0_keep, Cond.selects RX0 yX0_keep yX0_keep, Cond.code yX0_keep cX0_keep 6 none, Cond.fieldLink RX0 24 "ParallelUndo$Attempt" "keptLeaf" "[I", Cond.fieldLink RX0 28 "ParallelUndo$Attempt" "keptWriter" "[I", Cond.fieldLink RX0 31 "ParallelUndo$Attempt" "keptNumber" "[I", Cond.methodLink RX0 110 yX0_perform]
def wsX7_inOrder_r6 : List Cond := [Cond.instanceMethod yX0_perform, Cond.selects RX0 yX0_perform yX0_perform, Cond.code yX0_perform cX0_perform 6 none, Cond.methodLink RX0 139 yX0_write, Cond.instanceMethod yX0_write, Cond.selects RX0 yX0_write yX0_write, Cond.code yX0_write cX0_write 4 none, Cond.methodLink RX0 143 yX0_raise, Cond.instanceMethod yX0_raise, Cond.selects RX0 yX0_raise yX0_raise, Cond.code yX0_raise cX0_raise 3 none, Cond.fieldLink RX0 15 "ParallelUndo$Attempt" "eventValue" "[J", Cond.methodLink RX0 147 yX0_fail, Cond.instanceMethod yX0_fail, Cond.selects RX0 yX0_fail yX0_fail, Cond.code yX0_fail cX0_fail 1 none, Cond.methodLink RX1 51 yX5_publish, Cond.instanceMethod yX5_publish, Cond.selects RX5 yX5_publish yX5_publish, Cond.code yX5_publish cX5_publish 6 (some .boolean), Cond.fieldLink RX5 45 "ParallelUndo$Attempt" "self" "I", Cond.fieldLink RX5 55 "ParallelUndo$Attempt" "written" "[J", Cond.methodLink RX5 51 yX0_hasWritten, Cond.methodLink RX7 74 yX5_valueAfter]
def wsX7_inOrder_r7 : List Cond := [Cond.instanceMethod yX5_valueAfter, Cond.selects RX5 yX5_valueAfter yX5_valueAfter, Cond.code yX5_valueAfter cX5_valueAfter 2 (some .long), Cond.methodLink RX5 37 yX5_writerBelow, Cond.methodLink RX5 41 yX5_valueOf]
def wsX7_inOrder : List Cond := .code yX7_inOrder cX7_inOrder 2 (some .long) :: ((wsX7_inOrder_r1 ++ (wsX7_inOrder_r2 ++ (wsX7_inOrder_r3 ++ (wsX7_inOrder_r4 ++ (wsX7_inOrder_r5 ++ (wsX7_inOrder_r6 ++ wsX7_inOrder_r7)))))) ++ wsX70 ++ wsX10 ++ wsX20 ++ wsX50 ++ wsX00)
def wsX7_events : List Cond := .code yX7_events cX7_events 1 (some .int) :: ([.fieldLink RX7 23 "ParallelUndo" "latest" "LParallelUndo$Workers;", .fieldLink RX7 67 "ParallelUndo$Workers" "bench" "LParallelUndo$Bench;", .methodLink RX7 90 yX1_countEvents, .instanceMethod yX1_countEvents, .selects RX1 yX1_countEvents yX1_countEvents, .initialized RX1, .code yX1_countEvents cX1_countEvents 3 (some .int), .fieldLink RX1 33 "ParallelUndo$Bench" "calls" "I", .fieldLink RX1 20 "ParallelUndo$Bench" "attempts" "[LParallelUndo$Attempt;", .fieldLink RX1 78 "ParallelUndo$Attempt" "eventCount" "I"] ++ wsX70 ++ wsX60 ++ wsX10 ++ wsX00)
def wsX7_event : List Cond := .code yX7_event cX7_event 3 (some .long) :: ([.fieldLink RX7 23 "ParallelUndo" "latest" "LParallelUndo$Workers;", .fieldLink RX7 67 "ParallelUndo$Workers" "bench" "LParallelUndo$Bench;", .methodLink RX7 93 yX1_tellEvent, .instanceMethod yX1_tellEvent, .selects RX1 yX1_tellEvent yX1_tellEvent, .initialized RX1, .code yX1_tellEvent cX1_tellEvent 6 (some .long), .fieldLink RX1 33 "ParallelUndo$Bench" "calls" "I", .fieldLink RX1 20 "ParallelUndo$Bench" "attempts" "[LParallelUndo$Attempt;", .fieldLink RX1 78 "ParallelUndo$Attempt" "eventCount" "I", .fieldLink RX1 81 "ParallelUndo$Attempt" "eventValue" "[J"] ++ wsX70 ++ wsX60 ++ wsX10 ++ wsX00)
def wsX7_of_r1 : List Cond := [Cond.fieldLink RX7 23 "ParallelUndo" "latest" "LParallelUndo$Workers;", Cond.fieldLink RX7 67 "ParallelUndo$Workers" "bench" "LParallelUndo$Bench;", Cond.methodLink RX7 97 yX1_tellCall, Cond.instanceMethod yX1_tellCall, Cond.selects RX1 yX1_tellCall yX1_tellCall, Cond.initialized RX1, Cond.code yX1_tellCall cX1_tellCall 4 (some .int), Cond.fieldLink RX1 33 "ParallelUndo$Bench" "calls" "I", Cond.fieldLink RX1 20 "ParallelUndo$Bench" "attempts" "[LParallelUndo$Attempt;", Cond.fieldLink RX1 85 "ParallelUndo$Attempt" "began" "I", Cond.fieldLink RX1 88 "ParallelUndo$Attempt" "done" "I", Cond.fieldLink RX1 91 "ParallelUndo$Attempt" "failed" "Z", Cond.fieldLink RX1 95 "ParallelUndo$Attempt" "kept" "I", Cond.fieldLink RX1 55 "ParallelUndo$Attempt" "group" "I", Cond.methodLink RX1 98 yX0_countWritten, Cond.instanceMethod yX0_countWritten, Cond.selects RX0 yX0_countWritten yX0_countWritten, Cond.initialized RX0, Cond.code yX0_countWritten cX0_countWritten 1 (some .int), Cond.fieldLink RX0 60 "ParallelUndo$Attempt" "writtenMask" "I", Cond.methodLink RX0 78 yJ6_bitCount_0f7a4, Cond.static yJ6_bitCount_0f7a4, Cond.initialized RJ6, Cond.code yJ6_bitCount_0f7a4 cJ6_bitCount_0f7a4 1 (some .int)]
def wsX7_of_r2 : List Cond := [Cond.constant RJ6 265 (1431655765), Cond.constant RJ6 266 (858993459), Cond.constant RJ6 267 (252645135)]
def wsX7_of : List Cond := .code yX7_of cX7_of 3 (some .int) :: ((wsX7_of_r1 ++ wsX7_of_r2) ++ wsX70 ++ wsX60 ++ wsX10 ++ wsX00)
def wsX7_conflicts : List Cond := .code yX7_conflicts cX7_conflicts 1 (some .int) :: ([.fieldLink RX7 23 "ParallelUndo" "latest" "LParallelUndo$Workers;", .fieldLink RX7 101 "ParallelUndo$Workers" "conflicts" "LParallelUndo$Conflicts;", .fieldLink RX7 105 "ParallelUndo$Conflicts" "count" "I"] ++ wsX70 ++ wsX60 ++ wsX30)
def wsX7_conflict : List Cond := .code yX7_conflict cX7_conflict 3 (some .int) :: ([.fieldLink RX7 23 "ParallelUndo" "latest" "LParallelUndo$Workers;", .fieldLink RX7 101 "ParallelUndo$Workers" "conflicts" "LParallelUndo$Conflicts;", .methodLink RX7 110 yX3_tell, .instanceMethod yX3_tell, .selects RX3 yX3_tell yX3_tell, .initialized RX3, .code yX3_tell cX3_tell 3 (some .int), .fieldLink RX3 16 "ParallelUndo$Conflicts" "count" "I", .fieldLink RX3 9 "ParallelUndo$Conflicts" "hit" "[I", .fieldLink RX3 13 "ParallelUndo$Conflicts" "by" "[I"] ++ wsX70 ++ wsX60 ++ wsX30)
def wsX7_told_r1 : List Cond := [Cond.fieldLink RX7 23 "ParallelUndo" "latest" "LParallelUndo$Workers;", Cond.methodLink RX7 113 yX6_tell, Cond.instanceMethod yX6_tell, Cond.selects RX6 yX6_tell yX6_tell, Cond.initialized RX6, Cond.code yX6_tell cX6_tell 2 (some .int), Cond.fieldLink RX6 52 "ParallelUndo$Workers" "turns" "I", Cond.fieldLink RX6 64 "ParallelUndo$Workers" "fell" "Z", Cond.fieldLink RX6 55 "ParallelUndo$Workers" "looks" "I", Cond.fieldLink RX6 58 "ParallelUndo$Workers" "undone" "I", Cond.fieldLink RX6 61 "ParallelUndo$Workers" "givenUp" "I", Cond.fieldLink RX6 12 "ParallelUndo$Workers" "bench" "LParallelUndo$Bench;", Cond.fieldLink RX6 103 "ParallelUndo$Bench" "calls" "I", Cond.methodLink RX6 182 yX1_countActs, Cond.instanceMethod yX1_countActs, Cond.selects RX1 yX1_countActs yX1_countActs, Cond.initialized RX1, Cond.code yX1_countActs cX1_countActs 3 (some .int), Cond.fieldLink RX1 33 "ParallelUndo$Bench" "calls" "I", Cond.fieldLink RX1 20 "ParallelUndo$Bench" "attempts" "[LParallelUndo$Attempt;", Cond.fieldLink RX1 75 "ParallelUndo$Attempt" "doneInAll" "I", Cond.methodLink RX6 186 yX1_countGroups, Cond.instanceMethod yX1_countGroups, Cond.selects RX1 yX1_countGroups yX1_countGroups]
def wsX7_told_r2 : List Cond := [Cond.code yX1_countGroups cX1_countGroups 3 (some .int), Cond.fieldLink RX1 55 "ParallelUndo$Attempt" "group" "I"]
def wsX7_told : List Cond := .code yX7_told cX7_told 2 (some .int) :: ((wsX7_told_r1 ++ wsX7_told_r2) ++ wsX70 ++ wsX60 ++ wsX10 ++ wsX00)
def wsX8_init_r1 : List Cond := [Cond.methodLink RX8 1 objectInit, Cond.instanceMethod objectInit, Cond.code objectInit ⟨#[0xb1]⟩ 1 none, Cond.arrayClass .long, Cond.fieldLink RX8 7 "ParallelUndoModel" "leaf" "[J", Cond.arrayClass .int, Cond.fieldLink RX8 13 "ParallelUndoModel" "acts" "[I", Cond.fieldLink RX8 17 "ParallelUndoModel" "kind" "[I", Cond.fieldLink RX8 20 "ParallelUndoModel" "left" "[I", Cond.fieldLink RX8 23 "ParallelUndoModel" "right" "[I", Cond.fieldLink RX8 26 "ParallelUndoModel" "number" "[J", Cond.fieldLink RX8 29 "ParallelUndoModel" "place" "[I", Cond.fieldLink RX8 32 "ParallelUndoModel" "register" "[J", Cond.arrayClass .boolean, Cond.fieldLink RX8 35 "ParallelUndoModel" "failed" "[Z", Cond.fieldLink RX8 39 "ParallelUndoModel" "wrote" "[Z", Cond.fieldLink RX8 42 "ParallelUndoModel" "written" "[J", Cond.fieldLink RX8 45 "ParallelUndoModel" "kept" "[I", Cond.fieldLink RX8 48 "ParallelUndoModel" "keptLeaf" "[I", Cond.fieldLink RX8 51 "ParallelUndoModel" "keptCall" "[I", Cond.fieldLink RX8 54 "ParallelUndoModel" "keptRun" "[I", Cond.fieldLink RX8 57 "ParallelUndoModel" "keptValue" "[J", Cond.fieldLink RX8 60 "ParallelUndoModel" "eventCount" "[I", Cond.fieldLink RX8 63 "ParallelUndoModel" "eventValue" "[J"]
def wsX8_init_r2 : List Cond := [Cond.fieldLink RX8 66 "ParallelUndoModel" "began" "[I", Cond.fieldLink RX8 69 "ParallelUndoModel" "did" "[I", Cond.fieldLink RX8 72 "ParallelUndoModel" "has" "[Z", Cond.fieldLink RX8 75 "ParallelUndoModel" "perhaps" "[Z", Cond.fieldLink RX8 78 "ParallelUndoModel" "value" "[J", Cond.fieldLink RX8 81 "ParallelUndoModel" "ofRun" "[I", Cond.fieldLink RX8 84 "ParallelUndoModel" "how" "[I", Cond.fieldLink RX8 87 "ParallelUndoModel" "runOf" "[I", Cond.fieldLink RX8 90 "ParallelUndoModel" "waitsFor" "[I", Cond.fieldLink RX8 93 "ParallelUndoModel" "task" "[I", Cond.fieldLink RX8 96 "ParallelUndoModel" "taskCall" "[I", Cond.fieldLink RX8 99 "ParallelUndoModel" "taskRun" "[I", Cond.fieldLink RX8 102 "ParallelUndoModel" "group" "[I", Cond.fieldLink RX8 105 "ParallelUndoModel" "conflictCall" "[I", Cond.fieldLink RX8 108 "ParallelUndoModel" "conflictOther" "[I", Cond.fieldLink RX8 111 "ParallelUndoModel" "allEvents" "[J", Cond.fieldLink RX8 114 "ParallelUndoModel" "allEventCalls" "[I", Cond.fieldLink RX8 117 "ParallelUndoModel" "lastFailed" "[Z", Cond.fieldLink RX8 120 "ParallelUndoModel" "lastSaw" "[I", Cond.fieldLink RX8 123 "ParallelUndoModel" "lastWrote" "[I", Cond.fieldLink RX8 126 "ParallelUndoModel" "lastDid" "[I", Cond.fieldLink RX8 129 "ParallelUndoModel" "lastBegan" "[I", Cond.fieldLink RX8 132 "ParallelUndoModel" "plain" "[J", Cond.fieldLink RX8 135 "ParallelUndoModel" "plainOwn" "[J"]
def wsX8_init_r3 : List Cond := [Cond.fieldLink RX8 138 "ParallelUndoModel" "plainRegister" "[J", Cond.fieldLink RX8 141 "ParallelUndoModel" "bound" "I"]
def wsX8_init : List Cond := .code yX8_init cX8_init 1 none :: ((wsX8_init_r1 ++ (wsX8_init_r2 ++ wsX8_init_r3)) ++ wsX80)
def wsX8_call : List Cond := .code yX8_call cX8_call 1 (some .int) :: ([.fieldLink RX8 145 "ParallelUndoModel" "calls" "I", .fieldLink RX8 13 "ParallelUndoModel" "acts" "[I"] ++ wsX80)
def wsX8_act : List Cond := .code yX8_act cX8_act 10 (some .int) :: ([.fieldLink RX8 145 "ParallelUndoModel" "calls" "I", .fieldLink RX8 13 "ParallelUndoModel" "acts" "[I", .constantLong RX8 148 (12), .fieldLink RX8 17 "ParallelUndoModel" "kind" "[I", .fieldLink RX8 20 "ParallelUndoModel" "left" "[I", .fieldLink RX8 23 "ParallelUndoModel" "right" "[I", .fieldLink RX8 26 "ParallelUndoModel" "number" "[J"] ++ wsX80)
def wsX8_clear : List Cond := .code yX8_clear cX8_clear 2 (some .int) :: ([.fieldLink RX8 145 "ParallelUndoModel" "calls" "I"] ++ wsX80)
def wsX8_leaf : List Cond := .code yX8_leaf cX8_leaf 4 (some .boolean) :: ([.fieldLink RX8 7 "ParallelUndoModel" "leaf" "[J"] ++ wsX80)
def wsX8_bound : List Cond := .code yX8_bound cX8_bound 2 (some .boolean) :: ([.fieldLink RX8 141 "ParallelUndoModel" "bound" "I"] ++ wsX80)
def wsX8_begin : List Cond := .code yX8_begin cX8_begin 3 none :: ([.fieldLink RX8 66 "ParallelUndoModel" "began" "[I", .fieldLink RX8 29 "ParallelUndoModel" "place" "[I", .fieldLink RX8 69 "ParallelUndoModel" "did" "[I", .fieldLink RX8 35 "ParallelUndoModel" "failed" "[Z", .fieldLink RX8 45 "ParallelUndoModel" "kept" "[I", .fieldLink RX8 60 "ParallelUndoModel" "eventCount" "[I", .fieldLink RX8 32 "ParallelUndoModel" "register" "[J", .fieldLink RX8 39 "ParallelUndoModel" "wrote" "[Z"] ++ wsX80)
def wsX8_see : List Cond := .code yX8_see cX8_see 5 none :: ([.fieldLink RX8 150 "ParallelUndoModel" "seenCall" "I", .fieldLink RX8 153 "ParallelUndoModel" "seenRun" "I", .fieldLink RX8 156 "ParallelUndoModel" "seenPerhaps" "Z", .fieldLink RX8 7 "ParallelUndoModel" "leaf" "[J", .fieldLink RX8 160 "ParallelUndoModel" "seenValue" "J", .fieldLink RX8 72 "ParallelUndoModel" "has" "[Z", .fieldLink RX8 81 "ParallelUndoModel" "ofRun" "[I", .fieldLink RX8 75 "ParallelUndoModel" "perhaps" "[Z", .fieldLink RX8 78 "ParallelUndoModel" "value" "[J"] ++ wsX80)
def wsX8_leafOf : List Cond := .code yX8_leafOf cX8_leafOf 3 (some .int) :: ([.constantLong RX8 164 (32)])
def wsX8_doAct_r1 : List Cond := [Cond.fieldLink RX8 29 "ParallelUndoModel" "place" "[I", Cond.fieldLink RX8 20 "ParallelUndoModel" "left" "[I", Cond.fieldLink RX8 23 "ParallelUndoModel" "right" "[I", Cond.fieldLink RX8 17 "ParallelUndoModel" "kind" "[I", Cond.fieldLink RX8 26 "ParallelUndoModel" "number" "[J", Cond.fieldLink RX8 32 "ParallelUndoModel" "register" "[J", Cond.fieldLink RX8 39 "ParallelUndoModel" "wrote" "[Z", Cond.fieldLink RX8 42 "ParallelUndoModel" "written" "[J", Cond.fieldLink RX8 45 "ParallelUndoModel" "kept" "[I", Cond.fieldLink RX8 48 "ParallelUndoModel" "keptLeaf" "[I", Cond.fieldLink RX8 156 "ParallelUndoModel" "seenPerhaps" "Z", Cond.fieldLink RX8 150 "ParallelUndoModel" "seenCall" "I", Cond.fieldLink RX8 51 "ParallelUndoModel" "keptCall" "[I", Cond.fieldLink RX8 54 "ParallelUndoModel" "keptRun" "[I", Cond.fieldLink RX8 153 "ParallelUndoModel" "seenRun" "I", Cond.fieldLink RX8 57 "ParallelUndoModel" "keptValue" "[J", Cond.fieldLink RX8 160 "ParallelUndoModel" "seenValue" "J", Cond.fieldLink RX8 63 "ParallelUndoModel" "eventValue" "[J", Cond.fieldLink RX8 60 "ParallelUndoModel" "eventCount" "[I", Cond.fieldLink RX8 35 "ParallelUndoModel" "failed" "[Z", Cond.fieldLink RX8 69 "ParallelUndoModel" "did" "[I", Cond.fieldLink RX8 174 "ParallelUndoModel" "allActs" "I", Cond.methodLink RX8 166 yX8_leafOf, Cond.static yX8_leafOf]
def wsX8_doAct_r2 : List Cond := [Cond.initialized RX8, Cond.code yX8_leafOf cX8_leafOf 3 (some .int), Cond.constantLong RX8 164 (32), Cond.methodLink RX8 170 yX8_see, Cond.instanceMethod yX8_see, Cond.selects RX8 yX8_see yX8_see, Cond.code yX8_see cX8_see 5 none, Cond.fieldLink RX8 7 "ParallelUndoModel" "leaf" "[J", Cond.fieldLink RX8 72 "ParallelUndoModel" "has" "[Z", Cond.fieldLink RX8 81 "ParallelUndoModel" "ofRun" "[I", Cond.fieldLink RX8 75 "ParallelUndoModel" "perhaps" "[Z", Cond.fieldLink RX8 78 "ParallelUndoModel" "value" "[J"]
def wsX8_doAct : List Cond := .code yX8_doAct cX8_doAct 8 (some .int) :: ((wsX8_doAct_r1 ++ wsX8_doAct_r2) ++ wsX80)
def wsX8_isOver : List Cond := .code yX8_isOver cX8_isOver 2 (some .boolean) :: ([.fieldLink RX8 35 "ParallelUndoModel" "failed" "[Z", .fieldLink RX8 29 "ParallelUndoModel" "place" "[I", .fieldLink RX8 13 "ParallelUndoModel" "acts" "[I"] ++ wsX80)
def wsX8_conflict0 : List Cond := .code yX8_conflict0 cX8_conflict0 3 none :: ([.fieldLink RX8 177 "ParallelUndoModel" "conflictCount" "I", .fieldLink RX8 105 "ParallelUndoModel" "conflictCall" "[I", .fieldLink RX8 108 "ParallelUndoModel" "conflictOther" "[I"] ++ wsX80)
def wsX8_isDone : List Cond := .code yX8_isDone cX8_isDone 4 (some .boolean) :: ([.fieldLink RX8 93 "ParallelUndoModel" "task" "[I", .fieldLink RX8 198 "ParallelUndoModel" "nextRun" "I", .fieldLink RX8 145 "ParallelUndoModel" "calls" "I", .fieldLink RX8 201 "ParallelUndoModel" "nextLook" "I"] ++ wsX80)
def wsX8_toLook : List Cond := .code yX8_toLook cX8_toLook 3 none :: ([.fieldLink RX8 93 "ParallelUndoModel" "task" "[I", .fieldLink RX8 96 "ParallelUndoModel" "taskCall" "[I", .fieldLink RX8 99 "ParallelUndoModel" "taskRun" "[I", .fieldLink RX8 87 "ParallelUndoModel" "runOf" "[I"] ++ wsX80)
def wsX8_ends : List Cond := .code yX8_ends cX8_ends 6 none :: ([.fieldLink RX8 39 "ParallelUndoModel" "wrote" "[Z", .fieldLink RX8 35 "ParallelUndoModel" "failed" "[Z", .fieldLink RX8 72 "ParallelUndoModel" "has" "[Z", .fieldLink RX8 75 "ParallelUndoModel" "perhaps" "[Z", .fieldLink RX8 78 "ParallelUndoModel" "value" "[J", .fieldLink RX8 42 "ParallelUndoModel" "written" "[J", .fieldLink RX8 81 "ParallelUndoModel" "ofRun" "[I", .fieldLink RX8 87 "ParallelUndoModel" "runOf" "[I", .fieldLink RX8 84 "ParallelUndoModel" "how" "[I", .fieldLink RX8 145 "ParallelUndoModel" "calls" "I", .fieldLink RX8 90 "ParallelUndoModel" "waitsFor" "[I", .fieldLink RX8 198 "ParallelUndoModel" "nextRun" "I", .fieldLink RX8 201 "ParallelUndoModel" "nextLook" "I", .methodLink RX8 225 yX8_toLook, .instanceMethod yX8_toLook, .selects RX8 yX8_toLook yX8_toLook, .initialized RX8, .code yX8_toLook cX8_toLook 3 none, .fieldLink RX8 93 "ParallelUndoModel" "task" "[I", .fieldLink RX8 96 "ParallelUndoModel" "taskCall" "[I", .fieldLink RX8 99 "ParallelUndoModel" "taskRun" "[I"] ++ wsX80)
def wsX8_runStep_r1 : List Cond := [Cond.fieldLink RX8 96 "ParallelUndoModel" "taskCall" "[I", Cond.fieldLink RX8 84 "ParallelUndoModel" "how" "[I", Cond.fieldLink RX8 90 "ParallelUndoModel" "waitsFor" "[I", Cond.fieldLink RX8 93 "ParallelUndoModel" "task" "[I", Cond.fieldLink RX8 195 "ParallelUndoModel" "givenUp" "I", Cond.methodLink RX8 234 yX8_isOver, Cond.instanceMethod yX8_isOver, Cond.selects RX8 yX8_isOver yX8_isOver, Cond.initialized RX8, Cond.code yX8_isOver cX8_isOver 2 (some .boolean), Cond.fieldLink RX8 35 "ParallelUndoModel" "failed" "[Z", Cond.fieldLink RX8 29 "ParallelUndoModel" "place" "[I", Cond.fieldLink RX8 13 "ParallelUndoModel" "acts" "[I", Cond.methodLink RX8 237 yX8_doAct, Cond.instanceMethod yX8_doAct, Cond.selects RX8 yX8_doAct yX8_doAct, Cond.code yX8_doAct cX8_doAct 8 (some .int), Cond.fieldLink RX8 20 "ParallelUndoModel" "left" "[I", Cond.fieldLink RX8 23 "ParallelUndoModel" "right" "[I", Cond.fieldLink RX8 17 "ParallelUndoModel" "kind" "[I", Cond.fieldLink RX8 26 "ParallelUndoModel" "number" "[J", Cond.fieldLink RX8 32 "ParallelUndoModel" "register" "[J", Cond.fieldLink RX8 39 "ParallelUndoModel" "wrote" "[Z", Cond.fieldLink RX8 42 "ParallelUndoModel" "written" "[J"]
def wsX8_runStep_r2 : List Cond := [Cond.fieldLink RX8 45 "ParallelUndoModel" "kept" "[I", Cond.fieldLink RX8 48 "ParallelUndoModel" "keptLeaf" "[I", Cond.fieldLink RX8 156 "ParallelUndoModel" "seenPerhaps" "Z", Cond.fieldLink RX8 150 "ParallelUndoModel" "seenCall" "I", Cond.fieldLink RX8 51 "ParallelUndoModel" "keptCall" "[I", Cond.fieldLink RX8 54 "ParallelUndoModel" "keptRun" "[I", Cond.fieldLink RX8 153 "ParallelUndoModel" "seenRun" "I", Cond.fieldLink RX8 57 "ParallelUndoModel" "keptValue" "[J", Cond.fieldLink RX8 160 "ParallelUndoModel" "seenValue" "J", Cond.fieldLink RX8 63 "ParallelUndoModel" "eventValue" "[J", Cond.fieldLink RX8 60 "ParallelUndoModel" "eventCount" "[I", Cond.fieldLink RX8 69 "ParallelUndoModel" "did" "[I", Cond.fieldLink RX8 174 "ParallelUndoModel" "allActs" "I", Cond.methodLink RX8 166 yX8_leafOf, Cond.static yX8_leafOf, Cond.code yX8_leafOf cX8_leafOf 3 (some .int), Cond.constantLong RX8 164 (32), Cond.methodLink RX8 170 yX8_see, Cond.instanceMethod yX8_see, Cond.selects RX8 yX8_see yX8_see, Cond.code yX8_see cX8_see 5 none, Cond.fieldLink RX8 7 "ParallelUndoModel" "leaf" "[J", Cond.fieldLink RX8 72 "ParallelUndoModel" "has" "[Z", Cond.fieldLink RX8 81 "ParallelUndoModel" "ofRun" "[I"]
def wsX8_runStep_r3 : List Cond := [Cond.fieldLink RX8 75 "ParallelUndoModel" "perhaps" "[Z", Cond.fieldLink RX8 78 "ParallelUndoModel" "value" "[J", Cond.methodLink RX8 241 yX8_conflict0, Cond.instanceMethod yX8_conflict0, Cond.selects RX8 yX8_conflict0 yX8_conflict0, Cond.code yX8_conflict0 cX8_conflict0 3 none, Cond.fieldLink RX8 177 "ParallelUndoModel" "conflictCount" "I", Cond.fieldLink RX8 105 "ParallelUndoModel" "conflictCall" "[I", Cond.fieldLink RX8 108 "ParallelUndoModel" "conflictOther" "[I", Cond.methodLink RX8 244 yX8_ends, Cond.instanceMethod yX8_ends, Cond.selects RX8 yX8_ends yX8_ends, Cond.code yX8_ends cX8_ends 6 none, Cond.fieldLink RX8 87 "ParallelUndoModel" "runOf" "[I", Cond.fieldLink RX8 145 "ParallelUndoModel" "calls" "I", Cond.fieldLink RX8 198 "ParallelUndoModel" "nextRun" "I", Cond.fieldLink RX8 201 "ParallelUndoModel" "nextLook" "I", Cond.methodLink RX8 225 yX8_toLook, Cond.instanceMethod yX8_toLook, Cond.selects RX8 yX8_toLook yX8_toLook, Cond.code yX8_toLook cX8_toLook 3 none, Cond.fieldLink RX8 99 "ParallelUndoModel" "taskRun" "[I"]
def wsX8_runStep : List Cond := .code yX8_runStep cX8_runStep 4 none :: ((wsX8_runStep_r1 ++ (wsX8_runStep_r2 ++ wsX8_runStep_r3)) ++ wsX80)
def wsX8_toRun : List Cond := .code yX8_toRun cX8_toRun 3 none :: ([.fieldLink RX8 84 "ParallelUndoModel" "how" "[I", .fieldLink RX8 93 "ParallelUndoModel" "task" "[I", .fieldLink RX8 96 "ParallelUndoModel" "taskCall" "[I", .methodLink RX8 231 yX8_begin, .instanceMethod yX8_begin, .selects RX8 yX8_begin yX8_begin, .initialized RX8, .code yX8_begin cX8_begin 3 none, .fieldLink RX8 66 "ParallelUndoModel" "began" "[I", .fieldLink RX8 29 "ParallelUndoModel" "place" "[I", .fieldLink RX8 69 "ParallelUndoModel" "did" "[I", .fieldLink RX8 35 "ParallelUndoModel" "failed" "[Z", .fieldLink RX8 45 "ParallelUndoModel" "kept" "[I", .fieldLink RX8 60 "ParallelUndoModel" "eventCount" "[I", .fieldLink RX8 32 "ParallelUndoModel" "register" "[J", .fieldLink RX8 39 "ParallelUndoModel" "wrote" "[Z"] ++ wsX80)
def wsX8_lookStep_r1 : List Cond := [Cond.fieldLink RX8 96 "ParallelUndoModel" "taskCall" "[I", Cond.fieldLink RX8 93 "ParallelUndoModel" "task" "[I", Cond.fieldLink RX8 189 "ParallelUndoModel" "looks" "I", Cond.fieldLink RX8 84 "ParallelUndoModel" "how" "[I", Cond.fieldLink RX8 87 "ParallelUndoModel" "runOf" "[I", Cond.fieldLink RX8 99 "ParallelUndoModel" "taskRun" "[I", Cond.fieldLink RX8 45 "ParallelUndoModel" "kept" "[I", Cond.fieldLink RX8 48 "ParallelUndoModel" "keptLeaf" "[I", Cond.fieldLink RX8 156 "ParallelUndoModel" "seenPerhaps" "Z", Cond.fieldLink RX8 150 "ParallelUndoModel" "seenCall" "I", Cond.fieldLink RX8 51 "ParallelUndoModel" "keptCall" "[I", Cond.fieldLink RX8 153 "ParallelUndoModel" "seenRun" "I", Cond.fieldLink RX8 54 "ParallelUndoModel" "keptRun" "[I", Cond.fieldLink RX8 192 "ParallelUndoModel" "undone" "I", Cond.fieldLink RX8 75 "ParallelUndoModel" "perhaps" "[Z", Cond.fieldLink RX8 72 "ParallelUndoModel" "has" "[Z", Cond.fieldLink RX8 141 "ParallelUndoModel" "bound" "I", Cond.fieldLink RX8 186 "ParallelUndoModel" "fell" "Z", Cond.fieldLink RX8 201 "ParallelUndoModel" "nextLook" "I", Cond.fieldLink RX8 198 "ParallelUndoModel" "nextRun" "I", Cond.methodLink RX8 170 yX8_see, Cond.instanceMethod yX8_see, Cond.selects RX8 yX8_see yX8_see, Cond.initialized RX8]
def wsX8_lookStep_r2 : List Cond := [Cond.code yX8_see cX8_see 5 none, Cond.fieldLink RX8 7 "ParallelUndoModel" "leaf" "[J", Cond.fieldLink RX8 160 "ParallelUndoModel" "seenValue" "J", Cond.fieldLink RX8 81 "ParallelUndoModel" "ofRun" "[I", Cond.fieldLink RX8 78 "ParallelUndoModel" "value" "[J", Cond.methodLink RX8 241 yX8_conflict0, Cond.instanceMethod yX8_conflict0, Cond.selects RX8 yX8_conflict0 yX8_conflict0, Cond.code yX8_conflict0 cX8_conflict0 3 none, Cond.fieldLink RX8 177 "ParallelUndoModel" "conflictCount" "I", Cond.fieldLink RX8 105 "ParallelUndoModel" "conflictCall" "[I", Cond.fieldLink RX8 108 "ParallelUndoModel" "conflictOther" "[I", Cond.methodLink RX8 228 yX8_toRun, Cond.instanceMethod yX8_toRun, Cond.selects RX8 yX8_toRun yX8_toRun, Cond.code yX8_toRun cX8_toRun 3 none, Cond.methodLink RX8 231 yX8_begin, Cond.instanceMethod yX8_begin, Cond.selects RX8 yX8_begin yX8_begin, Cond.code yX8_begin cX8_begin 3 none, Cond.fieldLink RX8 66 "ParallelUndoModel" "began" "[I", Cond.fieldLink RX8 29 "ParallelUndoModel" "place" "[I", Cond.fieldLink RX8 69 "ParallelUndoModel" "did" "[I", Cond.fieldLink RX8 35 "ParallelUndoModel" "failed" "[Z"]
def wsX8_lookStep_r3 : List Cond := [Cond.fieldLink RX8 60 "ParallelUndoModel" "eventCount" "[I", Cond.fieldLink RX8 32 "ParallelUndoModel" "register" "[J", Cond.fieldLink RX8 39 "ParallelUndoModel" "wrote" "[Z"]
def wsX8_lookStep : List Cond := .code yX8_lookStep cX8_lookStep 5 none :: ((wsX8_lookStep_r1 ++ (wsX8_lookStep_r2 ++ wsX8_lookStep_r3)) ++ wsX80)
def wsX8_step_r1 : List Cond := [Cond.fieldLink RX8 93 "ParallelUndoModel" "task" "[I", Cond.fieldLink RX8 201 "ParallelUndoModel" "nextLook" "I", Cond.fieldLink RX8 198 "ParallelUndoModel" "nextRun" "I", Cond.fieldLink RX8 84 "ParallelUndoModel" "how" "[I", Cond.fieldLink RX8 145 "ParallelUndoModel" "calls" "I", Cond.methodLink RX8 219 yX8_runStep, Cond.instanceMethod yX8_runStep, Cond.selects RX8 yX8_runStep yX8_runStep, Cond.initialized RX8, Cond.code yX8_runStep cX8_runStep 4 none, Cond.fieldLink RX8 96 "ParallelUndoModel" "taskCall" "[I", Cond.fieldLink RX8 90 "ParallelUndoModel" "waitsFor" "[I", Cond.fieldLink RX8 195 "ParallelUndoModel" "givenUp" "I", Cond.methodLink RX8 234 yX8_isOver, Cond.instanceMethod yX8_isOver, Cond.selects RX8 yX8_isOver yX8_isOver, Cond.code yX8_isOver cX8_isOver 2 (some .boolean), Cond.fieldLink RX8 35 "ParallelUndoModel" "failed" "[Z", Cond.fieldLink RX8 29 "ParallelUndoModel" "place" "[I", Cond.fieldLink RX8 13 "ParallelUndoModel" "acts" "[I", Cond.methodLink RX8 237 yX8_doAct, Cond.instanceMethod yX8_doAct, Cond.selects RX8 yX8_doAct yX8_doAct, Cond.code yX8_doAct cX8_doAct 8 (some .int)]
def wsX8_step_r2 : List Cond := [Cond.fieldLink RX8 20 "ParallelUndoModel" "left" "[I", Cond.fieldLink RX8 23 "ParallelUndoModel" "right" "[I", Cond.fieldLink RX8 17 "ParallelUndoModel" "kind" "[I", Cond.fieldLink RX8 26 "ParallelUndoModel" "number" "[J", Cond.fieldLink RX8 32 "ParallelUndoModel" "register" "[J", Cond.fieldLink RX8 39 "ParallelUndoModel" "wrote" "[Z", Cond.fieldLink RX8 42 "ParallelUndoModel" "written" "[J", Cond.fieldLink RX8 45 "ParallelUndoModel" "kept" "[I", Cond.fieldLink RX8 48 "ParallelUndoModel" "keptLeaf" "[I", Cond.fieldLink RX8 156 "ParallelUndoModel" "seenPerhaps" "Z", Cond.fieldLink RX8 150 "ParallelUndoModel" "seenCall" "I", Cond.fieldLink RX8 51 "ParallelUndoModel" "keptCall" "[I", Cond.fieldLink RX8 54 "ParallelUndoModel" "keptRun" "[I", Cond.fieldLink RX8 153 "ParallelUndoModel" "seenRun" "I", Cond.fieldLink RX8 57 "ParallelUndoModel" "keptValue" "[J", Cond.fieldLink RX8 160 "ParallelUndoModel" "seenValue" "J", Cond.fieldLink RX8 63 "ParallelUndoModel" "eventValue" "[J", Cond.fieldLink RX8 60 "ParallelUndoModel" "eventCount" "[I", Cond.fieldLink RX8 69 "ParallelUndoModel" "did" "[I", Cond.fieldLink RX8 174 "ParallelUndoModel" "allActs" "I", Cond.methodLink RX8 166 yX8_leafOf, Cond.static yX8_leafOf, Cond.code yX8_leafOf cX8_leafOf 3 (some .int), Cond.constantLong RX8 164 (32)]
def wsX8_step_r3 : List Cond := [Cond.methodLink RX8 170 yX8_see, Cond.instanceMethod yX8_see, Cond.selects RX8 yX8_see yX8_see, Cond.code yX8_see cX8_see 5 none, Cond.fieldLink RX8 7 "ParallelUndoModel" "leaf" "[J", Cond.fieldLink RX8 72 "ParallelUndoModel" "has" "[Z", Cond.fieldLink RX8 81 "ParallelUndoModel" "ofRun" "[I", Cond.fieldLink RX8 75 "ParallelUndoModel" "perhaps" "[Z", Cond.fieldLink RX8 78 "ParallelUndoModel" "value" "[J", Cond.methodLink RX8 241 yX8_conflict0, Cond.instanceMethod yX8_conflict0, Cond.selects RX8 yX8_conflict0 yX8_conflict0, Cond.code yX8_conflict0 cX8_conflict0 3 none, Cond.fieldLink RX8 177 "ParallelUndoModel" "conflictCount" "I", Cond.fieldLink RX8 105 "ParallelUndoModel" "conflictCall" "[I", Cond.fieldLink RX8 108 "ParallelUndoModel" "conflictOther" "[I", Cond.methodLink RX8 244 yX8_ends, Cond.instanceMethod yX8_ends, Cond.selects RX8 yX8_ends yX8_ends, Cond.code yX8_ends cX8_ends 6 none, Cond.fieldLink RX8 87 "ParallelUndoModel" "runOf" "[I", Cond.methodLink RX8 225 yX8_toLook, Cond.instanceMethod yX8_toLook, Cond.selects RX8 yX8_toLook yX8_toLook]
def wsX8_step_r4 : List Cond := [Cond.code yX8_toLook cX8_toLook 3 none, Cond.fieldLink RX8 99 "ParallelUndoModel" "taskRun" "[I", Cond.methodLink RX8 222 yX8_lookStep, Cond.instanceMethod yX8_lookStep, Cond.selects RX8 yX8_lookStep yX8_lookStep, Cond.code yX8_lookStep cX8_lookStep 5 none, Cond.fieldLink RX8 189 "ParallelUndoModel" "looks" "I", Cond.fieldLink RX8 192 "ParallelUndoModel" "undone" "I", Cond.fieldLink RX8 141 "ParallelUndoModel" "bound" "I", Cond.fieldLink RX8 186 "ParallelUndoModel" "fell" "Z", Cond.methodLink RX8 228 yX8_toRun, Cond.instanceMethod yX8_toRun, Cond.selects RX8 yX8_toRun yX8_toRun, Cond.code yX8_toRun cX8_toRun 3 none, Cond.methodLink RX8 231 yX8_begin, Cond.instanceMethod yX8_begin, Cond.selects RX8 yX8_begin yX8_begin, Cond.code yX8_begin cX8_begin 3 none, Cond.fieldLink RX8 66 "ParallelUndoModel" "began" "[I"]
def wsX8_step : List Cond := .code yX8_step cX8_step 3 none :: ((wsX8_step_r1 ++ (wsX8_step_r2 ++ (wsX8_step_r3 ++ wsX8_step_r4))) ++ wsX80)
def wsX8_allInOrder_r1 : List Cond := [Cond.fieldLink RX8 72 "ParallelUndoModel" "has" "[Z", Cond.fieldLink RX8 75 "ParallelUndoModel" "perhaps" "[Z", Cond.fieldLink RX8 145 "ParallelUndoModel" "calls" "I", Cond.fieldLink RX8 39 "ParallelUndoModel" "wrote" "[Z", Cond.fieldLink RX8 35 "ParallelUndoModel" "failed" "[Z", Cond.fieldLink RX8 78 "ParallelUndoModel" "value" "[J", Cond.fieldLink RX8 42 "ParallelUndoModel" "written" "[J", Cond.fieldLink RX8 81 "ParallelUndoModel" "ofRun" "[I", Cond.methodLink RX8 231 yX8_begin, Cond.instanceMethod yX8_begin, Cond.selects RX8 yX8_begin yX8_begin, Cond.initialized RX8, Cond.code yX8_begin cX8_begin 3 none, Cond.fieldLink RX8 66 "ParallelUndoModel" "began" "[I", Cond.fieldLink RX8 29 "ParallelUndoModel" "place" "[I", Cond.fieldLink RX8 69 "ParallelUndoModel" "did" "[I", Cond.fieldLink RX8 45 "ParallelUndoModel" "kept" "[I", Cond.fieldLink RX8 60 "ParallelUndoModel" "eventCount" "[I", Cond.fieldLink RX8 32 "ParallelUndoModel" "register" "[J", Cond.methodLink RX8 234 yX8_isOver, Cond.instanceMethod yX8_isOver, Cond.selects RX8 yX8_isOver yX8_isOver, Cond.code yX8_isOver cX8_isOver 2 (some .boolean), Cond.fieldLink RX8 13 "ParallelUndoModel" "acts" "[I"]
def wsX8_allInOrder_r2 : List Cond := [Cond.methodLink RX8 237 yX8_doAct, Cond.instanceMethod yX8_doAct, Cond.selects RX8 yX8_doAct yX8_doAct, Cond.code yX8_doAct cX8_doAct 8 (some .int), Cond.fieldLink RX8 20 "ParallelUndoModel" "left" "[I", Cond.fieldLink RX8 23 "ParallelUndoModel" "right" "[I", Cond.fieldLink RX8 17 "ParallelUndoModel" "kind" "[I", Cond.fieldLink RX8 26 "ParallelUndoModel" "number" "[J", Cond.fieldLink RX8 48 "ParallelUndoModel" "keptLeaf" "[I", Cond.fieldLink RX8 156 "ParallelUndoModel" "seenPerhaps" "Z", Cond.fieldLink RX8 150 "ParallelUndoModel" "seenCall" "I", Cond.fieldLink RX8 51 "ParallelUndoModel" "keptCall" "[I", Cond.fieldLink RX8 54 "ParallelUndoModel" "keptRun" "[I", Cond.fieldLink RX8 153 "ParallelUndoModel" "seenRun" "I", Cond.fieldLink RX8 57 "ParallelUndoModel" "keptValue" "[J", Cond.fieldLink RX8 160 "ParallelUndoModel" "seenValue" "J", Cond.fieldLink RX8 63 "ParallelUndoModel" "eventValue" "[J", Cond.fieldLink RX8 174 "ParallelUndoModel" "allActs" "I", Cond.methodLink RX8 166 yX8_leafOf, Cond.static yX8_leafOf, Cond.code yX8_leafOf cX8_leafOf 3 (some .int), Cond.constantLong RX8 164 (32), Cond.methodLink RX8 170 yX8_see, Cond.instanceMethod yX8_see]
def wsX8_allInOrder_r3 : List Cond := [Cond.selects RX8 yX8_see yX8_see, Cond.code yX8_see cX8_see 5 none, Cond.fieldLink RX8 7 "ParallelUndoModel" "leaf" "[J"]
def wsX8_allInOrder : List Cond := .code yX8_allInOrder cX8_allInOrder 4 none :: ((wsX8_allInOrder_r1 ++ (wsX8_allInOrder_r2 ++ wsX8_allInOrder_r3)) ++ wsX80)
def wsX8_touches : List Cond := .code yX8_touches cX8_touches 5 (some .boolean) :: ([.fieldLink RX8 39 "ParallelUndoModel" "wrote" "[Z", .fieldLink RX8 35 "ParallelUndoModel" "failed" "[Z", .fieldLink RX8 45 "ParallelUndoModel" "kept" "[I", .fieldLink RX8 48 "ParallelUndoModel" "keptLeaf" "[I"] ++ wsX80)
def wsX8_rootOf : List Cond := .code yX8_rootOf cX8_rootOf 3 (some .int) :: ([.fieldLink RX8 102 "ParallelUndoModel" "group" "[I"] ++ wsX80)
def wsX8_settle_r1 : List Cond := [Cond.fieldLink RX8 247 "ParallelUndoModel" "eventAll" "I", Cond.fieldLink RX8 180 "ParallelUndoModel" "ran" "I", Cond.fieldLink RX8 72 "ParallelUndoModel" "has" "[Z", Cond.fieldLink RX8 7 "ParallelUndoModel" "leaf" "[J", Cond.fieldLink RX8 78 "ParallelUndoModel" "value" "[J", Cond.fieldLink RX8 60 "ParallelUndoModel" "eventCount" "[I", Cond.fieldLink RX8 35 "ParallelUndoModel" "failed" "[Z", Cond.fieldLink RX8 111 "ParallelUndoModel" "allEvents" "[J", Cond.fieldLink RX8 63 "ParallelUndoModel" "eventValue" "[J", Cond.fieldLink RX8 114 "ParallelUndoModel" "allEventCalls" "[I", Cond.fieldLink RX8 39 "ParallelUndoModel" "wrote" "[Z", Cond.fieldLink RX8 117 "ParallelUndoModel" "lastFailed" "[Z", Cond.fieldLink RX8 120 "ParallelUndoModel" "lastSaw" "[I", Cond.fieldLink RX8 45 "ParallelUndoModel" "kept" "[I", Cond.fieldLink RX8 123 "ParallelUndoModel" "lastWrote" "[I", Cond.fieldLink RX8 126 "ParallelUndoModel" "lastDid" "[I", Cond.fieldLink RX8 69 "ParallelUndoModel" "did" "[I", Cond.fieldLink RX8 129 "ParallelUndoModel" "lastBegan" "[I", Cond.fieldLink RX8 66 "ParallelUndoModel" "began" "[I", Cond.fieldLink RX8 102 "ParallelUndoModel" "group" "[I", Cond.fieldLink RX8 257 "ParallelUndoModel" "groups" "I", Cond.methodLink RX8 250 yX8_touches, Cond.instanceMethod yX8_touches, Cond.selects RX8 yX8_touches yX8_touches]
def wsX8_settle_r2 : List Cond := [Cond.initialized RX8, Cond.code yX8_touches cX8_touches 5 (some .boolean), Cond.fieldLink RX8 48 "ParallelUndoModel" "keptLeaf" "[I", Cond.methodLink RX8 254 yX8_rootOf, Cond.instanceMethod yX8_rootOf, Cond.selects RX8 yX8_rootOf yX8_rootOf, Cond.code yX8_rootOf cX8_rootOf 3 (some .int)]
def wsX8_settle : List Cond := .code yX8_settle cX8_settle 6 none :: ((wsX8_settle_r1 ++ wsX8_settle_r2) ++ wsX80)
def wsX8_run_r1 : List Cond := [Cond.fieldLink RX8 145 "ParallelUndoModel" "calls" "I", Cond.fieldLink RX8 180 "ParallelUndoModel" "ran" "I", Cond.fieldLink RX8 183 "ParallelUndoModel" "turns" "I", Cond.fieldLink RX8 186 "ParallelUndoModel" "fell" "Z", Cond.fieldLink RX8 189 "ParallelUndoModel" "looks" "I", Cond.fieldLink RX8 192 "ParallelUndoModel" "undone" "I", Cond.fieldLink RX8 195 "ParallelUndoModel" "givenUp" "I", Cond.fieldLink RX8 177 "ParallelUndoModel" "conflictCount" "I", Cond.fieldLink RX8 174 "ParallelUndoModel" "allActs" "I", Cond.fieldLink RX8 198 "ParallelUndoModel" "nextRun" "I", Cond.fieldLink RX8 201 "ParallelUndoModel" "nextLook" "I", Cond.fieldLink RX8 72 "ParallelUndoModel" "has" "[Z", Cond.fieldLink RX8 75 "ParallelUndoModel" "perhaps" "[Z", Cond.fieldLink RX8 84 "ParallelUndoModel" "how" "[I", Cond.fieldLink RX8 87 "ParallelUndoModel" "runOf" "[I", Cond.fieldLink RX8 66 "ParallelUndoModel" "began" "[I", Cond.fieldLink RX8 69 "ParallelUndoModel" "did" "[I", Cond.fieldLink RX8 45 "ParallelUndoModel" "kept" "[I", Cond.fieldLink RX8 35 "ParallelUndoModel" "failed" "[Z", Cond.fieldLink RX8 60 "ParallelUndoModel" "eventCount" "[I", Cond.fieldLink RX8 93 "ParallelUndoModel" "task" "[I", Cond.constant RX8 208 (1103515245), Cond.methodLink RX8 204 yX8_isDone, Cond.instanceMethod yX8_isDone]
def wsX8_run_r2 : List Cond := [Cond.selects RX8 yX8_isDone yX8_isDone, Cond.initialized RX8, Cond.code yX8_isDone cX8_isDone 4 (some .boolean), Cond.methodLink RX8 209 yX8_step, Cond.instanceMethod yX8_step, Cond.selects RX8 yX8_step yX8_step, Cond.code yX8_step cX8_step 3 none, Cond.methodLink RX8 219 yX8_runStep, Cond.instanceMethod yX8_runStep, Cond.selects RX8 yX8_runStep yX8_runStep, Cond.code yX8_runStep cX8_runStep 4 none, Cond.fieldLink RX8 96 "ParallelUndoModel" "taskCall" "[I", Cond.fieldLink RX8 90 "ParallelUndoModel" "waitsFor" "[I", Cond.methodLink RX8 234 yX8_isOver, Cond.instanceMethod yX8_isOver, Cond.selects RX8 yX8_isOver yX8_isOver, Cond.code yX8_isOver cX8_isOver 2 (some .boolean), Cond.fieldLink RX8 29 "ParallelUndoModel" "place" "[I", Cond.fieldLink RX8 13 "ParallelUndoModel" "acts" "[I", Cond.methodLink RX8 237 yX8_doAct, Cond.instanceMethod yX8_doAct, Cond.selects RX8 yX8_doAct yX8_doAct, Cond.code yX8_doAct cX8_doAct 8 (some .int), Cond.fieldLink RX8 20 "ParallelUndoModel" "left" "[I"]
def wsX8_run_r3 : List Cond := [Cond.fieldLink RX8 23 "ParallelUndoModel" "right" "[I", Cond.fieldLink RX8 17 "ParallelUndoModel" "kind" "[I", Cond.fieldLink RX8 26 "ParallelUndoModel" "number" "[J", Cond.fieldLink RX8 32 "ParallelUndoModel" "register" "[J", Cond.fieldLink RX8 39 "ParallelUndoModel" "wrote" "[Z", Cond.fieldLink RX8 42 "ParallelUndoModel" "written" "[J", Cond.fieldLink RX8 48 "ParallelUndoModel" "keptLeaf" "[I", Cond.fieldLink RX8 156 "ParallelUndoModel" "seenPerhaps" "Z", Cond.fieldLink RX8 150 "ParallelUndoModel" "seenCall" "I", Cond.fieldLink RX8 51 "ParallelUndoModel" "keptCall" "[I", Cond.fieldLink RX8 54 "ParallelUndoModel" "keptRun" "[I", Cond.fieldLink RX8 153 "ParallelUndoModel" "seenRun" "I", Cond.fieldLink RX8 57 "ParallelUndoModel" "keptValue" "[J", Cond.fieldLink RX8 160 "ParallelUndoModel" "seenValue" "J", Cond.fieldLink RX8 63 "ParallelUndoModel" "eventValue" "[J", Cond.methodLink RX8 166 yX8_leafOf, Cond.static yX8_leafOf, Cond.code yX8_leafOf cX8_leafOf 3 (some .int), Cond.constantLong RX8 164 (32), Cond.methodLink RX8 170 yX8_see, Cond.instanceMethod yX8_see, Cond.selects RX8 yX8_see yX8_see, Cond.code yX8_see cX8_see 5 none, Cond.fieldLink RX8 7 "ParallelUndoModel" "leaf" "[J"]
def wsX8_run_r4 : List Cond := [Cond.fieldLink RX8 81 "ParallelUndoModel" "ofRun" "[I", Cond.fieldLink RX8 78 "ParallelUndoModel" "value" "[J", Cond.methodLink RX8 241 yX8_conflict0, Cond.instanceMethod yX8_conflict0, Cond.selects RX8 yX8_conflict0 yX8_conflict0, Cond.code yX8_conflict0 cX8_conflict0 3 none, Cond.fieldLink RX8 105 "ParallelUndoModel" "conflictCall" "[I", Cond.fieldLink RX8 108 "ParallelUndoModel" "conflictOther" "[I", Cond.methodLink RX8 244 yX8_ends, Cond.instanceMethod yX8_ends, Cond.selects RX8 yX8_ends yX8_ends, Cond.code yX8_ends cX8_ends 6 none, Cond.methodLink RX8 225 yX8_toLook, Cond.instanceMethod yX8_toLook, Cond.selects RX8 yX8_toLook yX8_toLook, Cond.code yX8_toLook cX8_toLook 3 none, Cond.fieldLink RX8 99 "ParallelUndoModel" "taskRun" "[I", Cond.methodLink RX8 222 yX8_lookStep, Cond.instanceMethod yX8_lookStep, Cond.selects RX8 yX8_lookStep yX8_lookStep, Cond.code yX8_lookStep cX8_lookStep 5 none, Cond.fieldLink RX8 141 "ParallelUndoModel" "bound" "I", Cond.methodLink RX8 228 yX8_toRun, Cond.instanceMethod yX8_toRun]
def wsX8_run_r5 : List Cond := [Cond.selects RX8 yX8_toRun yX8_toRun, Cond.code yX8_toRun cX8_toRun 3 none, Cond.methodLink RX8 231 yX8_begin, Cond.instanceMethod yX8_begin, Cond.selects RX8 yX8_begin yX8_begin, Cond.code yX8_begin cX8_begin 3 none, Cond.methodLink RX8 213 yX8_allInOrder, Cond.instanceMethod yX8_allInOrder, Cond.selects RX8 yX8_allInOrder yX8_allInOrder, Cond.code yX8_allInOrder cX8_allInOrder 4 none, Cond.methodLink RX8 216 yX8_settle, Cond.instanceMethod yX8_settle, Cond.selects RX8 yX8_settle yX8_settle, Cond.code yX8_settle cX8_settle 6 none, Cond.fieldLink RX8 247 "ParallelUndoModel" "eventAll" "I", Cond.fieldLink RX8 111 "ParallelUndoModel" "allEvents" "[J", Cond.fieldLink RX8 114 "ParallelUndoModel" "allEventCalls" "[I", Cond.fieldLink RX8 117 "ParallelUndoModel" "lastFailed" "[Z", Cond.fieldLink RX8 120 "ParallelUndoModel" "lastSaw" "[I", Cond.fieldLink RX8 123 "ParallelUndoModel" "lastWrote" "[I", Cond.fieldLink RX8 126 "ParallelUndoModel" "lastDid" "[I", Cond.fieldLink RX8 129 "ParallelUndoModel" "lastBegan" "[I", Cond.fieldLink RX8 102 "ParallelUndoModel" "group" "[I", Cond.fieldLink RX8 257 "ParallelUndoModel" "groups" "I"]
def wsX8_run_r6 : List Cond := [Cond.methodLink RX8 250 yX8_touches, Cond.instanceMethod yX8_touches, Cond.selects RX8 yX8_touches yX8_touches, Cond.code yX8_touches cX8_touches 5 (some .boolean), Cond.methodLink RX8 254 yX8_rootOf, Cond.instanceMethod yX8_rootOf, Cond.selects RX8 yX8_rootOf yX8_rootOf, Cond.code yX8_rootOf cX8_rootOf 3 (some .int)]
def wsX8_run : List Cond := .code yX8_run cX8_run 4 (some .int) :: ((wsX8_run_r1 ++ (wsX8_run_r2 ++ (wsX8_run_r3 ++ (wsX8_run_r4 ++ (wsX8_run_r5 ++ wsX8_run_r6))))) ++ wsX80)
def wsX8_at : List Cond := .code yX8_at cX8_at 2 (some .long) :: ([.fieldLink RX8 7 "ParallelUndoModel" "leaf" "[J"] ++ wsX80)
def wsX8_inOrder : List Cond := .code yX8_inOrder cX8_inOrder 10 (some .long) :: ([.fieldLink RX8 132 "ParallelUndoModel" "plain" "[J", .fieldLink RX8 7 "ParallelUndoModel" "leaf" "[J", .fieldLink RX8 145 "ParallelUndoModel" "calls" "I", .fieldLink RX8 135 "ParallelUndoModel" "plainOwn" "[J", .fieldLink RX8 138 "ParallelUndoModel" "plainRegister" "[J", .fieldLink RX8 13 "ParallelUndoModel" "acts" "[I", .fieldLink RX8 20 "ParallelUndoModel" "left" "[I", .fieldLink RX8 23 "ParallelUndoModel" "right" "[I", .fieldLink RX8 17 "ParallelUndoModel" "kind" "[I", .fieldLink RX8 26 "ParallelUndoModel" "number" "[J", .methodLink RX8 166 yX8_leafOf, .static yX8_leafOf, .initialized RX8, .code yX8_leafOf cX8_leafOf 3 (some .int), .constantLong RX8 164 (32)] ++ wsX80)
def wsX8_events : List Cond := .code yX8_events cX8_events 1 (some .int) :: ([.fieldLink RX8 247 "ParallelUndoModel" "eventAll" "I"] ++ wsX80)
def wsX8_event : List Cond := .code yX8_event cX8_event 3 (some .long) :: ([.fieldLink RX8 247 "ParallelUndoModel" "eventAll" "I", .fieldLink RX8 111 "ParallelUndoModel" "allEvents" "[J", .fieldLink RX8 114 "ParallelUndoModel" "allEventCalls" "[I"] ++ wsX80)
def wsX8_of : List Cond := .code yX8_of cX8_of 3 (some .int) :: ([.fieldLink RX8 180 "ParallelUndoModel" "ran" "I", .fieldLink RX8 129 "ParallelUndoModel" "lastBegan" "[I", .fieldLink RX8 126 "ParallelUndoModel" "lastDid" "[I", .fieldLink RX8 117 "ParallelUndoModel" "lastFailed" "[Z", .fieldLink RX8 120 "ParallelUndoModel" "lastSaw" "[I", .fieldLink RX8 123 "ParallelUndoModel" "lastWrote" "[I", .fieldLink RX8 102 "ParallelUndoModel" "group" "[I"] ++ wsX80)
def wsX8_conflicts : List Cond := .code yX8_conflicts cX8_conflicts 1 (some .int) :: ([.fieldLink RX8 177 "ParallelUndoModel" "conflictCount" "I"] ++ wsX80)
def wsX8_conflict : List Cond := .code yX8_conflict cX8_conflict 3 (some .int) :: ([.fieldLink RX8 177 "ParallelUndoModel" "conflictCount" "I", .fieldLink RX8 105 "ParallelUndoModel" "conflictCall" "[I", .fieldLink RX8 108 "ParallelUndoModel" "conflictOther" "[I"] ++ wsX80)
def wsX8_told : List Cond := .code yX8_told cX8_told 2 (some .int) :: ([.fieldLink RX8 183 "ParallelUndoModel" "turns" "I", .fieldLink RX8 186 "ParallelUndoModel" "fell" "Z", .fieldLink RX8 189 "ParallelUndoModel" "looks" "I", .fieldLink RX8 192 "ParallelUndoModel" "undone" "I", .fieldLink RX8 195 "ParallelUndoModel" "givenUp" "I", .fieldLink RX8 174 "ParallelUndoModel" "allActs" "I", .fieldLink RX8 257 "ParallelUndoModel" "groups" "I", .fieldLink RX8 180 "ParallelUndoModel" "ran" "I"] ++ wsX80)
def wsJ9_min_7cf53 : List Cond := .code yJ9_min_7cf53 cJ9_min_7cf53 2 (some .int) :: ([])
def wsL_law_r1 : List Cond := [Cond.classLink RL 7 RX7, Cond.instantiable RX7 5, Cond.initialized RX7, Cond.classLink RL 10 RX8, Cond.instantiable RX8 61, Cond.initialized RX8, Cond.constantLong RL 18 (4294967295), Cond.methodLink RL 9 yX7_init, Cond.instanceMethod yX7_init, Cond.code yX7_init cX7_init 1 none, Cond.methodLink RX7 1 objectInit, Cond.instanceMethod objectInit, Cond.code objectInit ⟨#[0xb1]⟩ 1 none, Cond.arrayClass .long, Cond.fieldLink RX7 9 "ParallelUndo" "leaves" "[J", Cond.classLink RX7 13 RX2, Cond.instantiable RX2 6, Cond.initialized RX2, Cond.fieldLink RX7 16 "ParallelUndo" "block" "LParallelUndo$Block;", Cond.classLink RX7 20 RX6, Cond.instantiable RX6 17, Cond.initialized RX6, Cond.fieldLink RX7 23 "ParallelUndo" "latest" "LParallelUndo$Workers;", Cond.classLink RX7 27 RX1]
def wsL_law_r2 : List Cond := [Cond.instantiable RX1 3, Cond.initialized RX1, Cond.fieldLink RX7 30 "ParallelUndo" "trial" "LParallelUndo$Bench;", Cond.fieldLink RX7 34 "ParallelUndo" "fallBound" "I", Cond.instanceMethod yX2_init, Cond.code yX2_init cX2_init 1 none, Cond.methodLink RX2 3 objectInit, Cond.arrayClass .int, Cond.fieldLink RX2 9 "ParallelUndo$Block" "acts" "[I", Cond.fieldLink RX2 15 "ParallelUndo$Block" "kind" "[I", Cond.fieldLink RX2 18 "ParallelUndo$Block" "first" "[I", Cond.fieldLink RX2 21 "ParallelUndo$Block" "second" "[I", Cond.fieldLink RX2 24 "ParallelUndo$Block" "value" "[J", Cond.instanceMethod yX6_init, Cond.code yX6_init cX6_init 1 none, Cond.methodLink RX6 3 objectInit, Cond.classLink RX6 9 RX1, Cond.fieldLink RX6 12 "ParallelUndo$Workers" "bench" "LParallelUndo$Bench;", Cond.classLink RX6 18 RX3, Cond.instantiable RX3 3, Cond.initialized RX3, Cond.fieldLink RX6 21 "ParallelUndo$Workers" "conflicts" "LParallelUndo$Conflicts;", Cond.fieldLink RX6 25 "ParallelUndo$Workers" "status" "[I", Cond.fieldLink RX6 29 "ParallelUndo$Workers" "awaited" "[I"]
def wsL_law_r3 : List Cond := [Cond.fieldLink RX6 32 "ParallelUndo$Workers" "number" "[I", Cond.fieldLink RX6 35 "ParallelUndo$Workers" "task" "[I", Cond.fieldLink RX6 38 "ParallelUndo$Workers" "taskCall" "[I", Cond.fieldLink RX6 41 "ParallelUndo$Workers" "taskNumber" "[I", Cond.methodLink RX6 11 yX1_init, Cond.instanceMethod yX1_init, Cond.code yX1_init cX1_init 2 none, Cond.methodLink RX1 3 objectInit, Cond.classLink RX1 9 RX5, Cond.instantiable RX5 4, Cond.initialized RX5, Cond.fieldLink RX1 12 "ParallelUndo$Bench" "table" "LParallelUndo$Table;", Cond.classLink RX1 18 RX0, Cond.fieldLink RX1 20 "ParallelUndo$Bench" "attempts" "[LParallelUndo$Attempt;", Cond.instantiable RX0 18, Cond.initialized RX0, Cond.instanceMethod yX5_init, Cond.code yX5_init cX5_init 1 none, Cond.methodLink RX5 3 objectInit, Cond.fieldLink RX5 9 "ParallelUndo$Table" "before" "[J", Cond.fieldLink RX5 15 "ParallelUndo$Table" "state" "[I", Cond.fieldLink RX5 19 "ParallelUndo$Table" "number" "[I", Cond.fieldLink RX5 22 "ParallelUndo$Table" "value" "[J", Cond.methodLink RX1 24 yX0_init]
def wsL_law_r4 : List Cond := [Cond.instanceMethod yX0_init, Cond.code yX0_init cX0_init 2 none, Cond.methodLink RX0 3 objectInit, Cond.fieldLink RX0 9 "ParallelUndo$Attempt" "written" "[J", Cond.fieldLink RX0 15 "ParallelUndo$Attempt" "eventValue" "[J", Cond.fieldLink RX0 18 "ParallelUndo$Attempt" "register" "[J", Cond.fieldLink RX0 21 "ParallelUndo$Attempt" "keptValue" "[J", Cond.fieldLink RX0 24 "ParallelUndo$Attempt" "keptLeaf" "[I", Cond.fieldLink RX0 28 "ParallelUndo$Attempt" "keptWriter" "[I", Cond.fieldLink RX0 31 "ParallelUndo$Attempt" "keptNumber" "[I", Cond.fieldLink RX0 34 "ParallelUndo$Attempt" "self" "I", Cond.instanceMethod yX3_init, Cond.code yX3_init cX3_init 1 none, Cond.methodLink RX3 1 objectInit, Cond.fieldLink RX3 9 "ParallelUndo$Conflicts" "hit" "[I", Cond.fieldLink RX3 13 "ParallelUndo$Conflicts" "by" "[I", Cond.methodLink RX7 29 yX1_init, Cond.methodLink RL 12 yX8_init, Cond.instanceMethod yX8_init, Cond.code yX8_init cX8_init 1 none, Cond.methodLink RX8 1 objectInit, Cond.fieldLink RX8 7 "ParallelUndoModel" "leaf" "[J", Cond.fieldLink RX8 13 "ParallelUndoModel" "acts" "[I", Cond.fieldLink RX8 17 "ParallelUndoModel" "kind" "[I"]
def wsL_law_r5 : List Cond := [Cond.fieldLink RX8 20 "ParallelUndoModel" "left" "[I", Cond.fieldLink RX8 23 "ParallelUndoModel" "right" "[I", Cond.fieldLink RX8 26 "ParallelUndoModel" "number" "[J", Cond.fieldLink RX8 29 "ParallelUndoModel" "place" "[I", Cond.fieldLink RX8 32 "ParallelUndoModel" "register" "[J", Cond.arrayClass .boolean, Cond.fieldLink RX8 35 "ParallelUndoModel" "failed" "[Z", Cond.fieldLink RX8 39 "ParallelUndoModel" "wrote" "[Z", Cond.fieldLink RX8 42 "ParallelUndoModel" "written" "[J", Cond.fieldLink RX8 45 "ParallelUndoModel" "kept" "[I", Cond.fieldLink RX8 48 "ParallelUndoModel" "keptLeaf" "[I", Cond.fieldLink RX8 51 "ParallelUndoModel" "keptCall" "[I", Cond.fieldLink RX8 54 "ParallelUndoModel" "keptRun" "[I", Cond.fieldLink RX8 57 "ParallelUndoModel" "keptValue" "[J", Cond.fieldLink RX8 60 "ParallelUndoModel" "eventCount" "[I", Cond.fieldLink RX8 63 "ParallelUndoModel" "eventValue" "[J", Cond.fieldLink RX8 66 "ParallelUndoModel" "began" "[I", Cond.fieldLink RX8 69 "ParallelUndoModel" "did" "[I", Cond.fieldLink RX8 72 "ParallelUndoModel" "has" "[Z", Cond.fieldLink RX8 75 "ParallelUndoModel" "perhaps" "[Z", Cond.fieldLink RX8 78 "ParallelUndoModel" "value" "[J", Cond.fieldLink RX8 81 "ParallelUndoModel" "ofRun" "[I", Cond.fieldLink RX8 84 "ParallelUndoModel" "how" "[I", Cond.fieldLink RX8 87 "ParallelUndoModel" "runOf" "[I"]
def wsL_law_r6 : List Cond := [Cond.fieldLink RX8 90 "ParallelUndoModel" "waitsFor" "[I", Cond.fieldLink RX8 93 "ParallelUndoModel" "task" "[I", Cond.fieldLink RX8 96 "ParallelUndoModel" "taskCall" "[I", Cond.fieldLink RX8 99 "ParallelUndoModel" "taskRun" "[I", Cond.fieldLink RX8 102 "ParallelUndoModel" "group" "[I", Cond.fieldLink RX8 105 "ParallelUndoModel" "conflictCall" "[I", Cond.fieldLink RX8 108 "ParallelUndoModel" "conflictOther" "[I", Cond.fieldLink RX8 111 "ParallelUndoModel" "allEvents" "[J", Cond.fieldLink RX8 114 "ParallelUndoModel" "allEventCalls" "[I", Cond.fieldLink RX8 117 "ParallelUndoModel" "lastFailed" "[Z", Cond.fieldLink RX8 120 "ParallelUndoModel" "lastSaw" "[I", Cond.fieldLink RX8 123 "ParallelUndoModel" "lastWrote" "[I", Cond.fieldLink RX8 126 "ParallelUndoModel" "lastDid" "[I", Cond.fieldLink RX8 129 "ParallelUndoModel" "lastBegan" "[I", Cond.fieldLink RX8 132 "ParallelUndoModel" "plain" "[J", Cond.fieldLink RX8 135 "ParallelUndoModel" "plainOwn" "[J", Cond.fieldLink RX8 138 "ParallelUndoModel" "plainRegister" "[J", Cond.fieldLink RX8 141 "ParallelUndoModel" "bound" "I", Cond.methodLink RL 13 yX7_call, Cond.instanceMethod yX7_call, Cond.selects RX7 yX7_call yX7_call, Cond.code yX7_call cX7_call 1 (some .int), Cond.methodLink RX7 38 yX2_addCall, Cond.instanceMethod yX2_addCall]
def wsL_law_r7 : List Cond := [Cond.selects RX2 yX2_addCall yX2_addCall, Cond.code yX2_addCall cX2_addCall 1 (some .int), Cond.fieldLink RX2 28 "ParallelUndo$Block" "calls" "I", Cond.methodLink RL 17 yX8_call, Cond.instanceMethod yX8_call, Cond.selects RX8 yX8_call yX8_call, Cond.code yX8_call cX8_call 1 (some .int), Cond.fieldLink RX8 145 "ParallelUndoModel" "calls" "I", Cond.methodLink RL 20 yX7_act, Cond.instanceMethod yX7_act, Cond.selects RX7 yX7_act yX7_act, Cond.code yX7_act cX7_act 7 (some .int), Cond.methodLink RX7 42 yX4_allows, Cond.static yX4_allows, Cond.initialized RX4, Cond.code yX4_allows cX4_allows 5 (some .boolean), Cond.methodLink RX4 11 yX4_isRegister, Cond.static yX4_isRegister, Cond.code yX4_isRegister cX4_isRegister 1 (some .boolean), Cond.methodLink RX4 15 yX4_hasSecond, Cond.static yX4_hasSecond, Cond.code yX4_hasSecond cX4_hasSecond 1 (some .boolean), Cond.methodLink RX4 18 yX4_allowsValue, Cond.static yX4_allowsValue]
def wsL_law_r8 : List Cond := [Cond.code yX4_allowsValue cX4_allowsValue 3 (some .boolean), Cond.constantLong RX4 22 (12), Cond.methodLink RX7 48 yX2_addAct, Cond.instanceMethod yX2_addAct, Cond.selects RX2 yX2_addAct yX2_addAct, Cond.code yX2_addAct cX2_addAct 8 (some .int), Cond.methodLink RL 24 yX8_act, Cond.instanceMethod yX8_act, Cond.selects RX8 yX8_act yX8_act, Cond.code yX8_act cX8_act 10 (some .int), Cond.constantLong RX8 148 (12), Cond.methodLink RL 25 yX7_clear, Cond.instanceMethod yX7_clear, Cond.selects RX7 yX7_clear yX7_clear, Cond.code yX7_clear cX7_clear 1 (some .int), Cond.methodLink RX7 52 yX2_dropCalls, Cond.instanceMethod yX2_dropCalls, Cond.selects RX2 yX2_dropCalls yX2_dropCalls, Cond.code yX2_dropCalls cX2_dropCalls 2 (some .int), Cond.methodLink RL 28 yX8_clear, Cond.instanceMethod yX8_clear, Cond.selects RX8 yX8_clear yX8_clear, Cond.code yX8_clear cX8_clear 2 (some .int), Cond.methodLink RL 29 yX7_leaf]
def wsL_law_r9 : List Cond := [Cond.instanceMethod yX7_leaf, Cond.selects RX7 yX7_leaf yX7_leaf, Cond.code yX7_leaf cX7_leaf 4 (some .boolean), Cond.methodLink RX7 55 yX7_isLeaf, Cond.static yX7_isLeaf, Cond.code yX7_isLeaf cX7_isLeaf 1 (some .boolean), Cond.methodLink RL 33 yX8_leaf, Cond.instanceMethod yX8_leaf, Cond.selects RX8 yX8_leaf yX8_leaf, Cond.code yX8_leaf cX8_leaf 4 (some .boolean), Cond.methodLink RL 34 yX7_bound, Cond.instanceMethod yX7_bound, Cond.selects RX7 yX7_bound yX7_bound, Cond.code yX7_bound cX7_bound 2 (some .boolean), Cond.methodLink RL 38 yX8_bound, Cond.instanceMethod yX8_bound, Cond.selects RX8 yX8_bound yX8_bound, Cond.code yX8_bound cX8_bound 2 (some .boolean), Cond.methodLink RL 39 yX7_run, Cond.instanceMethod yX7_run, Cond.selects RX7 yX7_run yX7_run, Cond.code yX7_run cX7_run 4 (some .int), Cond.fieldLink RX7 67 "ParallelUndo$Workers" "bench" "LParallelUndo$Bench;", Cond.fieldLink RX7 70 "ParallelUndo$Bench" "table" "LParallelUndo$Table;"]
def wsL_law_r10 : List Cond := [Cond.fieldLink RX7 80 "ParallelUndo$Workers" "turns" "I", Cond.methodLink RX7 59 yX6_open, Cond.instanceMethod yX6_open, Cond.selects RX6 yX6_open yX6_open, Cond.code yX6_open cX6_open 5 none, Cond.fieldLink RX6 48 "ParallelUndo$Conflicts" "count" "I", Cond.fieldLink RX6 52 "ParallelUndo$Workers" "turns" "I", Cond.fieldLink RX6 55 "ParallelUndo$Workers" "looks" "I", Cond.fieldLink RX6 58 "ParallelUndo$Workers" "undone" "I", Cond.fieldLink RX6 61 "ParallelUndo$Workers" "givenUp" "I", Cond.fieldLink RX6 64 "ParallelUndo$Workers" "fell" "Z", Cond.fieldLink RX6 68 "ParallelUndo$Workers" "size" "I", Cond.fieldLink RX6 71 "ParallelUndo$Workers" "fallBound" "I", Cond.fieldLink RX6 74 "ParallelUndo$Workers" "runRow" "I", Cond.fieldLink RX6 77 "ParallelUndo$Workers" "lookRow" "I", Cond.methodLink RX6 44 yX1_open, Cond.instanceMethod yX1_open, Cond.selects RX1 yX1_open yX1_open, Cond.code yX1_open cX1_open 4 none, Cond.fieldLink RX1 27 "ParallelUndo$Block" "calls" "I", Cond.fieldLink RX1 33 "ParallelUndo$Bench" "calls" "I", Cond.methodLink RX1 34 yX5_open, Cond.instanceMethod yX5_open, Cond.selects RX5 yX5_open yX5_open]
def wsL_law_r11 : List Cond := [Cond.code yX5_open cX5_open 2 none, Cond.methodLink RX5 25 arraycopyName, Cond.native arraycopyName, Cond.static arraycopyName, Cond.initialized "java/lang/System", Cond.methodLink RX5 31 yJ7_fill_53178, Cond.static yJ7_fill_53178, Cond.initialized RJ7, Cond.code yJ7_fill_53178 cJ7_fill_53178 4 none, Cond.methodLink RX1 38 yX0_open, Cond.instanceMethod yX0_open, Cond.selects RX0 yX0_open yX0_open, Cond.code yX0_open cX0_open 1 none, Cond.fieldLink RX0 38 "ParallelUndo$Attempt" "began" "I", Cond.fieldLink RX0 41 "ParallelUndo$Attempt" "doneInAll" "I", Cond.methodLink RX6 80 yJ7_fill_53178, Cond.methodLink RX7 63 yX6_work, Cond.instanceMethod yX6_work, Cond.selects RX6 yX6_work yX6_work, Cond.code yX6_work cX6_work 4 none, Cond.constant RX6 86 (1000000), Cond.constant RX6 91 (1103515245), Cond.methodLink RX6 87 yX6_isDone, Cond.instanceMethod yX6_isDone]
def wsL_law_r12 : List Cond := [Cond.selects RX6 yX6_isDone yX6_isDone, Cond.code yX6_isDone cX6_isDone 2 (some .boolean), Cond.fieldLink RX6 103 "ParallelUndo$Bench" "calls" "I", Cond.methodLink RX6 92 yX6_step, Cond.instanceMethod yX6_step, Cond.selects RX6 yX6_step yX6_step, Cond.code yX6_step cX6_step 3 none, Cond.methodLink RX6 106 yX6_goOn, Cond.instanceMethod yX6_goOn, Cond.selects RX6 yX6_goOn yX6_goOn, Cond.code yX6_goOn cX6_goOn 6 none, Cond.fieldLink RX6 123 "ParallelUndo$Bench" "attempts" "[LParallelUndo$Attempt;", Cond.fieldLink RX6 132 "ParallelUndo$Bench" "table" "LParallelUndo$Table;", Cond.methodLink RX6 136 yX0_doNext, Cond.instanceMethod yX0_doNext, Cond.selects RX0 yX0_doNext yX0_doNext, Cond.code yX0_doNext cX0_doNext 10 (some .int), Cond.fieldLink RX0 44 "ParallelUndo$Attempt" "next" "I", Cond.fieldLink RX0 88 "ParallelUndo$Block" "kind" "[I", Cond.fieldLink RX0 91 "ParallelUndo$Block" "first" "[I", Cond.fieldLink RX0 94 "ParallelUndo$Block" "second" "[I", Cond.fieldLink RX0 97 "ParallelUndo$Block" "value" "[J", Cond.fieldLink RX0 47 "ParallelUndo$Attempt" "done" "I", Cond.methodLink RX0 84 yX0_isOver]
def wsL_law_r13 : List Cond := [Cond.instanceMethod yX0_isOver, Cond.selects RX0 yX0_isOver yX0_isOver, Cond.code yX0_isOver cX0_isOver 2 (some .boolean), Cond.fieldLink RX0 50 "ParallelUndo$Attempt" "failed" "Z", Cond.methodLink RX0 72 yX2_hasAct, Cond.instanceMethod yX2_hasAct, Cond.selects RX2 yX2_hasAct yX2_hasAct, Cond.code yX2_hasAct cX2_hasAct 3 (some .boolean), Cond.methodLink RX0 102 yX0_leafAt, Cond.instanceMethod yX0_leafAt, Cond.selects RX0 yX0_leafAt yX0_leafAt, Cond.code yX0_leafAt cX0_leafAt 4 (some .int), Cond.constantLong RX0 114 (31), Cond.methodLink RX0 106 yX0_read, Cond.instanceMethod yX0_read, Cond.selects RX0 yX0_read yX0_read, Cond.code yX0_read cX0_read 5 (some .int), Cond.fieldLink RX0 57 "ParallelUndo$Attempt" "keptMask" "I", Cond.methodLink RX0 116 yX0_hasWritten, Cond.instanceMethod yX0_hasWritten, Cond.selects RX0 yX0_hasWritten yX0_hasWritten, Cond.code yX0_hasWritten cX0_hasWritten 2 (some .boolean), Cond.fieldLink RX0 60 "ParallelUndo$Attempt" "writtenMask" "I", Cond.methodLink RX0 120 yX5_writerBelow]
def wsL_law_r14 : List Cond := [Cond.instanceMethod yX5_writerBelow, Cond.selects RX5 yX5_writerBelow yX5_writerBelow, Cond.code yX5_writerBelow cX5_writerBelow 4 (some .int), Cond.methodLink RX0 126 yX5_isPerhaps, Cond.instanceMethod yX5_isPerhaps, Cond.selects RX5 yX5_isPerhaps yX5_isPerhaps, Cond.code yX5_isPerhaps cX5_isPerhaps 3 (some .boolean), Cond.methodLink RX0 129 yX5_numberOf, Cond.instanceMethod yX5_numberOf, Cond.selects RX5 yX5_numberOf yX5_numberOf, Cond.code yX5_numberOf cX5_numberOf 3 (some .int), Cond.methodLink RX0 132 yX5_valueOf, Cond.instanceMethod yX5_valueOf, Cond.selects RX5 yX5_valueOf yX5_valueOf, Cond.code yX5_valueOf cX5_valueOf 3 (some .long), Cond.methodLink RX0 136 yX0_keep, Cond.instanceMethod yX0_keep, Cond.selects RX0 yX0_keep yX0_keep, Cond.code yX0_keep cX0_keep 6 none, Cond.fieldLink RX0 54 "ParallelUndo$Attempt" "kept" "I", Cond.methodLink RX0 110 yX0_perform, Cond.instanceMethod yX0_perform, Cond.selects RX0 yX0_perform yX0_perform, Cond.code yX0_perform cX0_perform 6 none]
def wsL_law_r15 : List Cond := [Cond.methodLink RX0 139 yX0_write, Cond.instanceMethod yX0_write, Cond.selects RX0 yX0_write yX0_write, Cond.code yX0_write cX0_write 4 none, Cond.methodLink RX0 143 yX0_raise, Cond.instanceMethod yX0_raise, Cond.selects RX0 yX0_raise yX0_raise, Cond.code yX0_raise cX0_raise 3 none, Cond.fieldLink RX0 63 "ParallelUndo$Attempt" "eventCount" "I", Cond.methodLink RX0 147 yX0_fail, Cond.instanceMethod yX0_fail, Cond.selects RX0 yX0_fail yX0_fail, Cond.code yX0_fail cX0_fail 1 none, Cond.methodLink RX6 140 yX6_giveUp, Cond.instanceMethod yX6_giveUp, Cond.selects RX6 yX6_giveUp yX6_giveUp, Cond.code yX6_giveUp cX6_giveUp 4 none, Cond.methodLink RX6 151 yX3_note, Cond.instanceMethod yX3_note, Cond.selects RX3 yX3_note yX3_note, Cond.code yX3_note cX3_note 3 none, Cond.fieldLink RX3 16 "ParallelUndo$Conflicts" "count" "I", Cond.methodLink RX6 144 yX0_isOver, Cond.methodLink RX6 148 yX6_end]
def wsL_law_r16 : List Cond := [Cond.instanceMethod yX6_end, Cond.selects RX6 yX6_end yX6_end, Cond.code yX6_end cX6_end 4 none, Cond.methodLink RX6 154 yX5_publish, Cond.instanceMethod yX5_publish, Cond.selects RX5 yX5_publish yX5_publish, Cond.code yX5_publish cX5_publish 6 (some .boolean), Cond.fieldLink RX5 45 "ParallelUndo$Attempt" "self" "I", Cond.fieldLink RX5 55 "ParallelUndo$Attempt" "written" "[J", Cond.methodLink RX5 51 yX0_hasWritten, Cond.methodLink RX6 160 yX6_wakeThoseWaitingFor, Cond.instanceMethod yX6_wakeThoseWaitingFor, Cond.selects RX6 yX6_wakeThoseWaitingFor yX6_wakeThoseWaitingFor, Cond.code yX6_wakeThoseWaitingFor cX6_wakeThoseWaitingFor 3 none, Cond.methodLink RX6 163 Lib.Math.min.name, Cond.static Lib.Math.min.name, Cond.initialized "java/lang/Math", Cond.code Lib.Math.min.name Lib.Math.min.code 2 (some .int), Cond.methodLink RX6 116 yX6_giveLook, Cond.instanceMethod yX6_giveLook, Cond.selects RX6 yX6_giveLook yX6_giveLook, Cond.code yX6_giveLook cX6_giveLook 3 none, Cond.methodLink RX6 109 yX6_look, Cond.instanceMethod yX6_look]
def wsL_law_r17 : List Cond := [Cond.selects RX6 yX6_look yX6_look, Cond.code yX6_look cX6_look 4 none, Cond.methodLink RX6 169 yX0_firstChanged, Cond.instanceMethod yX0_firstChanged, Cond.selects RX0 yX0_firstChanged yX0_firstChanged, Cond.code yX0_firstChanged cX0_firstChanged 5 (some .int), Cond.methodLink RX6 173 yX5_writerBelow, Cond.methodLink RX6 176 yX6_undo, Cond.instanceMethod yX6_undo, Cond.selects RX6 yX6_undo yX6_undo, Cond.code yX6_undo cX6_undo 2 none, Cond.methodLink RX6 179 yX5_doubt, Cond.instanceMethod yX5_doubt, Cond.selects RX5 yX5_doubt yX5_doubt, Cond.code yX5_doubt cX5_doubt 3 none, Cond.methodLink RX6 120 yX6_giveRun, Cond.instanceMethod yX6_giveRun, Cond.selects RX6 yX6_giveRun yX6_giveRun, Cond.code yX6_giveRun cX6_giveRun 3 none, Cond.methodLink RX6 127 yX0_begin, Cond.instanceMethod yX0_begin, Cond.selects RX0 yX0_begin yX0_begin, Cond.code yX0_begin cX0_begin 1 none, Cond.methodLink RX0 66 yJ7_fill_d0a16]
def wsL_law_r18 : List Cond := [Cond.static yJ7_fill_d0a16, Cond.code yJ7_fill_d0a16 cJ7_fill_d0a16 5 none, Cond.methodLink RX6 113 yX6_takeTask, Cond.instanceMethod yX6_takeTask, Cond.selects RX6 yX6_takeTask yX6_takeTask, Cond.code yX6_takeTask cX6_takeTask 3 none, Cond.methodLink RX6 96 yX1_runOneByOne, Cond.instanceMethod yX1_runOneByOne, Cond.selects RX1 yX1_runOneByOne yX1_runOneByOne, Cond.code yX1_runOneByOne cX1_runOneByOne 5 none, Cond.methodLink RX1 40 yX0_begin, Cond.methodLink RX1 43 yX0_isOver, Cond.methodLink RX1 47 yX0_doNext, Cond.methodLink RX1 51 yX5_publish, Cond.methodLink RX6 100 yX1_formGroups, Cond.instanceMethod yX1_formGroups, Cond.selects RX1 yX1_formGroups yX1_formGroups, Cond.code yX1_formGroups cX1_formGroups 2 none, Cond.fieldLink RX1 55 "ParallelUndo$Attempt" "group" "I", Cond.methodLink RX1 58 yX1_joinTouching, Cond.instanceMethod yX1_joinTouching, Cond.selects RX1 yX1_joinTouching yX1_joinTouching, Cond.code yX1_joinTouching cX1_joinTouching 4 none, Cond.methodLink RX1 61 yX0_touched]
def wsL_law_r19 : List Cond := [Cond.instanceMethod yX0_touched, Cond.selects RX0 yX0_touched yX0_touched, Cond.code yX0_touched cX0_touched 2 (some .boolean), Cond.methodLink RX1 65 yX1_joinGroups, Cond.instanceMethod yX1_joinGroups, Cond.selects RX1 yX1_joinGroups yX1_joinGroups, Cond.code yX1_joinGroups cX1_joinGroups 6 none, Cond.methodLink RX1 69 Lib.Math.min.name, Cond.methodLink RX7 74 yX5_valueAfter, Cond.instanceMethod yX5_valueAfter, Cond.selects RX5 yX5_valueAfter yX5_valueAfter, Cond.code yX5_valueAfter cX5_valueAfter 2 (some .long), Cond.methodLink RX5 37 yX5_writerBelow, Cond.methodLink RX5 41 yX5_valueOf, Cond.methodLink RL 43 yX8_run, Cond.instanceMethod yX8_run, Cond.selects RX8 yX8_run yX8_run, Cond.code yX8_run cX8_run 4 (some .int), Cond.fieldLink RX8 180 "ParallelUndoModel" "ran" "I", Cond.fieldLink RX8 183 "ParallelUndoModel" "turns" "I", Cond.fieldLink RX8 186 "ParallelUndoModel" "fell" "Z", Cond.fieldLink RX8 189 "ParallelUndoModel" "looks" "I", Cond.fieldLink RX8 192 "ParallelUndoModel" "undone" "I", Cond.fieldLink RX8 195 "ParallelUndoModel" "givenUp" "I"]
def wsL_law_r20 : List Cond := [Cond.fieldLink RX8 177 "ParallelUndoModel" "conflictCount" "I", Cond.fieldLink RX8 174 "ParallelUndoModel" "allActs" "I", Cond.fieldLink RX8 198 "ParallelUndoModel" "nextRun" "I", Cond.fieldLink RX8 201 "ParallelUndoModel" "nextLook" "I", Cond.constant RX8 208 (1103515245), Cond.methodLink RX8 204 yX8_isDone, Cond.instanceMethod yX8_isDone, Cond.selects RX8 yX8_isDone yX8_isDone, Cond.code yX8_isDone cX8_isDone 4 (some .boolean), Cond.methodLink RX8 209 yX8_step, Cond.instanceMethod yX8_step, Cond.selects RX8 yX8_step yX8_step, Cond.code yX8_step cX8_step 3 none, Cond.methodLink RX8 219 yX8_runStep, Cond.instanceMethod yX8_runStep, Cond.selects RX8 yX8_runStep yX8_runStep, Cond.code yX8_runStep cX8_runStep 4 none, Cond.methodLink RX8 234 yX8_isOver, Cond.instanceMethod yX8_isOver, Cond.selects RX8 yX8_isOver yX8_isOver, Cond.code yX8_isOver cX8_isOver 2 (some .boolean), Cond.methodLink RX8 237 yX8_doAct, Cond.instanceMethod yX8_doAct, Cond.selects RX8 yX8_doAct yX8_doAct]
def wsL_law_r21 : List Cond := [Cond.code yX8_doAct cX8_doAct 8 (some .int), Cond.fieldLink RX8 156 "ParallelUndoModel" "seenPerhaps" "Z", Cond.fieldLink RX8 150 "ParallelUndoModel" "seenCall" "I", Cond.fieldLink RX8 153 "ParallelUndoModel" "seenRun" "I", Cond.fieldLink RX8 160 "ParallelUndoModel" "seenValue" "J", Cond.methodLink RX8 166 yX8_leafOf, Cond.static yX8_leafOf, Cond.code yX8_leafOf cX8_leafOf 3 (some .int), Cond.constantLong RX8 164 (32), Cond.methodLink RX8 170 yX8_see, Cond.instanceMethod yX8_see, Cond.selects RX8 yX8_see yX8_see, Cond.code yX8_see cX8_see 5 none, Cond.methodLink RX8 241 yX8_conflict0, Cond.instanceMethod yX8_conflict0, Cond.selects RX8 yX8_conflict0 yX8_conflict0, Cond.code yX8_conflict0 cX8_conflict0 3 none, Cond.methodLink RX8 244 yX8_ends, Cond.instanceMethod yX8_ends, Cond.selects RX8 yX8_ends yX8_ends, Cond.code yX8_ends cX8_ends 6 none, Cond.methodLink RX8 225 yX8_toLook, Cond.instanceMethod yX8_toLook, Cond.selects RX8 yX8_toLook yX8_toLook]
def wsL_law_r22 : List Cond := [Cond.code yX8_toLook cX8_toLook 3 none, Cond.methodLink RX8 222 yX8_lookStep, Cond.instanceMethod yX8_lookStep, Cond.selects RX8 yX8_lookStep yX8_lookStep, Cond.code yX8_lookStep cX8_lookStep 5 none, Cond.methodLink RX8 228 yX8_toRun, Cond.instanceMethod yX8_toRun, Cond.selects RX8 yX8_toRun yX8_toRun, Cond.code yX8_toRun cX8_toRun 3 none, Cond.methodLink RX8 231 yX8_begin, Cond.instanceMethod yX8_begin, Cond.selects RX8 yX8_begin yX8_begin, Cond.code yX8_begin cX8_begin 3 none, Cond.methodLink RX8 213 yX8_allInOrder, Cond.instanceMethod yX8_allInOrder, Cond.selects RX8 yX8_allInOrder yX8_allInOrder, Cond.code yX8_allInOrder cX8_allInOrder 4 none, Cond.methodLink RX8 216 yX8_settle, Cond.instanceMethod yX8_settle, Cond.selects RX8 yX8_settle yX8_settle, Cond.code yX8_settle cX8_settle 6 none, Cond.fieldLink RX8 247 "ParallelUndoModel" "eventAll" "I", Cond.fieldLink RX8 257 "ParallelUndoModel" "groups" "I", Cond.methodLink RX8 250 yX8_touches]
def wsL_law_r23 : List Cond := [Cond.instanceMethod yX8_touches, Cond.selects RX8 yX8_touches yX8_touches, Cond.code yX8_touches cX8_touches 5 (some .boolean), Cond.methodLink RX8 254 yX8_rootOf, Cond.instanceMethod yX8_rootOf, Cond.selects RX8 yX8_rootOf yX8_rootOf, Cond.code yX8_rootOf cX8_rootOf 3 (some .int), Cond.methodLink RL 44 yX7_at, Cond.instanceMethod yX7_at, Cond.selects RX7 yX7_at yX7_at, Cond.code yX7_at cX7_at 2 (some .long), Cond.methodLink RL 48 yX8_at, Cond.instanceMethod yX8_at, Cond.selects RX8 yX8_at yX8_at, Cond.code yX8_at cX8_at 2 (some .long), Cond.methodLink RL 49 yX7_inOrder, Cond.instanceMethod yX7_inOrder, Cond.selects RX7 yX7_inOrder yX7_inOrder, Cond.code yX7_inOrder cX7_inOrder 2 (some .long), Cond.methodLink RX7 83 yX1_open, Cond.methodLink RX7 86 yX1_runOneByOne, Cond.methodLink RL 52 yX8_inOrder, Cond.instanceMethod yX8_inOrder, Cond.selects RX8 yX8_inOrder yX8_inOrder]
def wsL_law_r24 : List Cond := [Cond.code yX8_inOrder cX8_inOrder 10 (some .long), Cond.methodLink RL 53 yX7_events, Cond.instanceMethod yX7_events, Cond.selects RX7 yX7_events yX7_events, Cond.code yX7_events cX7_events 1 (some .int), Cond.methodLink RX7 90 yX1_countEvents, Cond.instanceMethod yX1_countEvents, Cond.selects RX1 yX1_countEvents yX1_countEvents, Cond.code yX1_countEvents cX1_countEvents 3 (some .int), Cond.fieldLink RX1 78 "ParallelUndo$Attempt" "eventCount" "I", Cond.methodLink RL 56 yX8_events, Cond.instanceMethod yX8_events, Cond.selects RX8 yX8_events yX8_events, Cond.code yX8_events cX8_events 1 (some .int), Cond.methodLink RL 57 yX7_event, Cond.instanceMethod yX7_event, Cond.selects RX7 yX7_event yX7_event, Cond.code yX7_event cX7_event 3 (some .long), Cond.methodLink RX7 93 yX1_tellEvent, Cond.instanceMethod yX1_tellEvent, Cond.selects RX1 yX1_tellEvent yX1_tellEvent, Cond.code yX1_tellEvent cX1_tellEvent 6 (some .long), Cond.fieldLink RX1 81 "ParallelUndo$Attempt" "eventValue" "[J", Cond.methodLink RL 61 yX8_event]
def wsL_law_r25 : List Cond := [Cond.instanceMethod yX8_event, Cond.selects RX8 yX8_event yX8_event, Cond.code yX8_event cX8_event 3 (some .long), Cond.methodLink RL 62 yX7_of, Cond.instanceMethod yX7_of, Cond.selects RX7 yX7_of yX7_of, Cond.code yX7_of cX7_of 3 (some .int), Cond.methodLink RX7 97 yX1_tellCall, Cond.instanceMethod yX1_tellCall, Cond.selects RX1 yX1_tellCall yX1_tellCall, Cond.code yX1_tellCall cX1_tellCall 4 (some .int), Cond.fieldLink RX1 85 "ParallelUndo$Attempt" "began" "I", Cond.fieldLink RX1 88 "ParallelUndo$Attempt" "done" "I", Cond.fieldLink RX1 91 "ParallelUndo$Attempt" "failed" "Z", Cond.fieldLink RX1 95 "ParallelUndo$Attempt" "kept" "I", Cond.methodLink RX1 98 yX0_countWritten, Cond.instanceMethod yX0_countWritten, Cond.selects RX0 yX0_countWritten yX0_countWritten, Cond.code yX0_countWritten cX0_countWritten 1 (some .int), Cond.methodLink RX0 78 yJ6_bitCount_0f7a4, Cond.static yJ6_bitCount_0f7a4, Cond.initialized RJ6, Cond.code yJ6_bitCount_0f7a4 cJ6_bitCount_0f7a4 1 (some .int), Cond.constant RJ6 265 (1431655765)]
def wsL_law_r26 : List Cond := [Cond.constant RJ6 266 (858993459), Cond.constant RJ6 267 (252645135), Cond.methodLink RL 65 yX8_of, Cond.instanceMethod yX8_of, Cond.selects RX8 yX8_of yX8_of, Cond.code yX8_of cX8_of 3 (some .int), Cond.methodLink RL 66 yX7_conflicts, Cond.instanceMethod yX7_conflicts, Cond.selects RX7 yX7_conflicts yX7_conflicts, Cond.code yX7_conflicts cX7_conflicts 1 (some .int), Cond.fieldLink RX7 101 "ParallelUndo$Workers" "conflicts" "LParallelUndo$Conflicts;", Cond.fieldLink RX7 105 "ParallelUndo$Conflicts" "count" "I", Cond.methodLink RL 69 yX8_conflicts, Cond.instanceMethod yX8_conflicts, Cond.selects RX8 yX8_conflicts yX8_conflicts, Cond.code yX8_conflicts cX8_conflicts 1 (some .int), Cond.methodLink RL 70 yX7_conflict, Cond.instanceMethod yX7_conflict, Cond.selects RX7 yX7_conflict yX7_conflict, Cond.code yX7_conflict cX7_conflict 3 (some .int), Cond.methodLink RX7 110 yX3_tell, Cond.instanceMethod yX3_tell, Cond.selects RX3 yX3_tell yX3_tell, Cond.code yX3_tell cX3_tell 3 (some .int)]
def wsL_law_r27 : List Cond := [Cond.methodLink RL 73 yX8_conflict, Cond.instanceMethod yX8_conflict, Cond.selects RX8 yX8_conflict yX8_conflict, Cond.code yX8_conflict cX8_conflict 3 (some .int), Cond.methodLink RL 74 yX7_told, Cond.instanceMethod yX7_told, Cond.selects RX7 yX7_told yX7_told, Cond.code yX7_told cX7_told 2 (some .int), Cond.methodLink RX7 113 yX6_tell, Cond.instanceMethod yX6_tell, Cond.selects RX6 yX6_tell yX6_tell, Cond.code yX6_tell cX6_tell 2 (some .int), Cond.methodLink RX6 182 yX1_countActs, Cond.instanceMethod yX1_countActs, Cond.selects RX1 yX1_countActs yX1_countActs, Cond.code yX1_countActs cX1_countActs 3 (some .int), Cond.fieldLink RX1 75 "ParallelUndo$Attempt" "doneInAll" "I", Cond.methodLink RX6 186 yX1_countGroups, Cond.instanceMethod yX1_countGroups, Cond.selects RX1 yX1_countGroups yX1_countGroups, Cond.code yX1_countGroups cX1_countGroups 3 (some .int), Cond.methodLink RL 78 yX8_told, Cond.instanceMethod yX8_told, Cond.selects RX8 yX8_told yX8_told]
def wsL_law_r28 : List Cond := [Cond.code yX8_told cX8_told 2 (some .int)]
def wsL_law : List Cond := (wsL_law_r1 ++ (wsL_law_r2 ++ (wsL_law_r3 ++ (wsL_law_r4 ++ (wsL_law_r5 ++ (wsL_law_r6 ++ (wsL_law_r7 ++ (wsL_law_r8 ++ (wsL_law_r9 ++ (wsL_law_r10 ++ (wsL_law_r11 ++ (wsL_law_r12 ++ (wsL_law_r13 ++ (wsL_law_r14 ++ (wsL_law_r15 ++ (wsL_law_r16 ++ (wsL_law_r17 ++ (wsL_law_r18 ++ (wsL_law_r19 ++ (wsL_law_r20 ++ (wsL_law_r21 ++ (wsL_law_r22 ++ (wsL_law_r23 ++ (wsL_law_r24 ++ (wsL_law_r25 ++ (wsL_law_r26 ++ (wsL_law_r27 ++ wsL_law_r28))))))))))))))))))))))))))) ++ wsX70 ++ wsX80 ++ wsX20 ++ wsX60 ++ wsX10 ++ wsX30 ++ wsX50 ++ wsX00 ++ ([] : List Cond)
abbrev vwCl : List vw_C := [(RX0, TX0, 18), (RX1, TX1, 3), (RX2, TX2, 6), (RX3, TX3, 3), (RX5, TX5, 4), (RX6, TX6, 17), (RX7, TX7, 5), (RX8, TX8, 61)]
end
section
/-! ===== the pure machine: values are ints, longs and numbers of cells; the store is what the cells hold; pm_run is a method's code run over them ===== -/
abbrev pSV : Type := Int32 ⊕ (Int64 ⊕ Nat)
abbrev pST : Type := (Nat → Nat → Int32) × (Nat → Nat → Int64)
abbrev pLS : Type := List (Nat × pSV)
abbrev pRT : Type := pST × Option pSV
abbrev pNX : Type := Nat × (pLS × (List pSV × pST))
abbrev pSH : Type := Nat → Nat ⊕ (Nat × Nat)
abbrev pFN : Type := pST → List pSV → Option pRT
abbrev pCL : Type := Nat → Option (Nat × (Option Nat × pFN))
def pm_v (lay : Nat → Nat) (v : pSV) : Value := match v with
  | .inl x => .int x
  | .inr (.inl x) => .long x
  | .inr (.inr i) => .ref (lay i)
def pm_w (v : pSV) : Nat := match v with
  | .inl _ => 1
  | .inr (.inl _) => 2
  | .inr (.inr _) => 1
/-- the kinds of the fields: 0 int, 1 boolean, 2 long, 3 a final int, d + 4 a cell that is d further on -/
def pm_fk (ci : Nat) : List Nat := match ci with
  | 0 => [3, 0, 0, 0, 1, 0, 0, 0, 5, 6, 0, 0, 0, 7, 8, 9, 10, 11]
  | 1 => [5, 10, 0]
  | 2 => [0, 5, 6, 7, 8, 9]
  | 3 => [0, 5, 6]
  | 4 => [5, 6, 7, 8]
  | 5 => [5, 140, 0, 0, 0, 0, 1, 0, 0, 0, 0, 143, 144, 145, 146, 147, 148]
  | 6 => [5, 6, 12, 157, 0]
  | 7 => [5, 0, 0, 6, 7, 8, 9, 10, 11, 12, 13, 14, 15, 16, 17, 18, 19, 20, 21, 22, 23, 24, 0, 25, 26, 27, 28, 0, 0, 1, 2, 29, 30, 31, 32, 33, 34, 0, 0, 0, 0, 1, 0, 0, 0, 0, 35, 0, 36, 37, 0, 38, 39, 40, 41, 42, 43, 44, 45, 46, 47]
  | _ => []
def pm_fv (lay : Nat → Nat) (σ : pST) (i k q : Nat) : Value := match q with
  | 0 => .int (σ.1 i k)
  | 1 => .int (σ.1 i k)
  | 2 => .long (σ.2 i k)
  | 3 => .int (σ.1 i k)
  | d + 4 => .ref (lay (i + d))
def pm_fs (lay : Nat → Nat) (σ : pST) (i : Nat) : Nat → List Nat → List Value
  | _, [] => []
  | k, q :: l => pm_fv lay σ i k q :: pm_fs lay σ i (k + 1) l
def pm_E (lay : Nat → Nat) (cy : Nat → ClassId) (sh : pSH) (σ : pST) (i : Nat) : va_E := match sh i with
  | .inl ci => .inr (ci, pm_fs lay σ i 0 (pm_fk ci))
  | .inr (0, n) => .inl (cy 0, n, .inl (σ.1 i))
  | .inr (1, n) => .inl (cy 1, n, .inr (.inl (σ.2 i)))
  | .inr (2, n) => .inl (cy 2, n, .inl (σ.1 i))
  | .inr (_, n) => .inl (cy 3, n, .inr (.inr (.inr (.inr (fun j => some (lay (i + 1 + 8 * j)))))))
def pm_W (lay : Nat → Nat) (cy : Nat → ClassId) (sh : pSH) (N : Nat) (σ : pST) : va_W := (List.range N).map (fun i => (lay i, pm_E lay cy sh σ i))
abbrev pm_T (cy : Nat → ClassId) : List (ClassId × FieldType) := [(cy 0, .int), (cy 1, .long), (cy 2, .boolean), (cy 3, .object RX0)]
def pm_ui (I : Nat → Nat → Int32) (i k : Nat) (x : Int32) : Nat → Nat → Int32 := fun a => if a = i then upd (I i) k x else I a
def pm_uj (J : Nat → Nat → Int64) (i k : Nat) (x : Int64) : Nat → Nat → Int64 := fun a => if a = i then vp_updL (J i) k x else J a
-- one step
abbrev pm_go (pc : Nat) (ls : pLS) (st : List pSV) (σ : pST) : Option (pNX ⊕ pRT) := some (.inl (pc, ls, st, σ))
def pm_lk (ls : pLS) (k : Nat) : Option pSV := (ls.find? (fun q => q.1 == k)).map (fun q => q.2)
def pm_ldi (k pc : Nat) (ls : pLS) (st : List pSV) (σ : pST) : Option (pNX ⊕ pRT) := match pm_lk ls k with
  | some (.inl x) => pm_go pc ls (.inl x :: st) σ
  | _ => none
def pm_ldl (k pc : Nat) (ls : pLS) (st : List pSV) (σ : pST) : Option (pNX ⊕ pRT) := match pm_lk ls k with
  | some (.inr (.inl x)) => pm_go pc ls (.inr (.inl x) :: st) σ
  | _ => none
def pm_lda (k pc : Nat) (ls : pLS) (st : List pSV) (σ : pST) : Option (pNX ⊕ pRT) := match pm_lk ls k with
  | some (.inr (.inr x)) => pm_go pc ls (.inr (.inr x) :: st) σ
  | _ => none
def pm_s1 (ls : pLS) (k : Nat) (v : pSV) : pLS := (k, v) :: ls.filter (fun q => !(q.1 == k) && !(q.1 + 1 == k && pm_w q.2 == 2))
def pm_s2 (ls : pLS) (k : Nat) (v : pSV) : pLS := (k, v) :: ls.filter (fun q => !(q.1 == k) && (!(q.1 == k + 1) && !(q.1 + 1 == k && pm_w q.2 == 2)))
def pm_sti (nL k pc : Nat) (ls : pLS) (st : List pSV) (σ : pST) : Option (pNX ⊕ pRT) := match st with
  | .inl x :: r => if k < nL then pm_go pc (pm_s1 ls k (.inl x)) r σ else none
  | _ => none
def pm_sta (nL k pc : Nat) (ls : pLS) (st : List pSV) (σ : pST) : Option (pNX ⊕ pRT) := match st with
  | .inr (.inr x) :: r => if k < nL then pm_go pc (pm_s1 ls k (.inr (.inr x))) r σ else none
  | _ => none
def pm_stl (nL k pc : Nat) (ls : pLS) (st : List pSV) (σ : pST) : Option (pNX ⊕ pRT) := match st with
  | .inr (.inl x) :: r => if k + 1 < nL then pm_go pc (pm_s2 ls k (.inr (.inl x))) r σ else none
  | _ => none
def pm_inc (nL k : Nat) (n : Int) (pc : Nat) (ls : pLS) (st : List pSV) (σ : pST) : Option (pNX ⊕ pRT) := match pm_lk ls k with
  | some (.inl x) => if k < nL then pm_go pc (pm_s1 ls k (.inl (x + Int32.ofInt n))) st σ else none
  | _ => none
def pm_ii (f : Int32 → Int32 → Int32) (pc : Nat) (ls : pLS) (st : List pSV) (σ : pST) : Option (pNX ⊕ pRT) := match st with
  | .inl y :: .inl x :: r => pm_go pc ls (.inl (f x y) :: r) σ
  | _ => none
def pm_ll (f : Int64 → Int64 → Int64) (pc : Nat) (ls : pLS) (st : List pSV) (σ : pST) : Option (pNX ⊕ pRT) := match st with
  | .inr (.inl y) :: .inr (.inl x) :: r => pm_go pc ls (.inr (.inl (f x y)) :: r) σ
  | _ => none
def pm_irem (pc : Nat) (ls : pLS) (st : List pSV) (σ : pST) : Option (pNX ⊕ pRT) := match st with
  | .inl y :: .inl x :: r => if y = 0 then none else pm_go pc ls (.inl (x - x / y * y) :: r) σ
  | _ => none
def pm_lrem (pc : Nat) (ls : pLS) (st : List pSV) (σ : pST) : Option (pNX ⊕ pRT) := match st with
  | .inr (.inl y) :: .inr (.inl x) :: r => if y = 0 then none else pm_go pc ls (.inr (.inl (x - x / y * y)) :: r) σ
  | _ => none
def pm_lcmp (pc : Nat) (ls : pLS) (st : List pSV) (σ : pST) : Option (pNX ⊕ pRT) := match st with
  | .inr (.inl y) :: .inr (.inl x) :: r => pm_go pc ls (.inl (lg_cmp x y) :: r) σ
  | _ => none
def pm_lsh (pc : Nat) (ls : pLS) (st : List pSV) (σ : pST) : Option (pNX ⊕ pRT) := match st with
  | .inl y :: .inr (.inl x) :: r => pm_go pc ls (.inr (.inl (x <<< (y.toInt64 &&& 63))) :: r) σ
  | _ => none
def pm_i2l (pc : Nat) (ls : pLS) (st : List pSV) (σ : pST) : Option (pNX ⊕ pRT) := match st with
  | .inl x :: r => pm_go pc ls (.inr (.inl x.toInt64) :: r) σ
  | _ => none
def pm_l2i (pc : Nat) (ls : pLS) (st : List pSV) (σ : pST) : Option (pNX ⊕ pRT) := match st with
  | .inr (.inl x) :: r => pm_go pc ls (.inl x.toInt32 :: r) σ
  | _ => none
def pm_dup (pc : Nat) (ls : pLS) (st : List pSV) (σ : pST) : Option (pNX ⊕ pRT) := match st with
  | v :: r => if pm_w v = 1 then pm_go pc ls (v :: v :: r) σ else none
  | _ => none
def pm_dup2 (pc : Nat) (ls : pLS) (st : List pSV) (σ : pST) : Option (pNX ⊕ pRT) := match st with
  | v :: u :: r => if pm_w v = 1 ∧ pm_w u = 1 then pm_go pc ls (v :: u :: v :: u :: r) σ else none
  | _ => none
def pm_pop (pc : Nat) (ls : pLS) (st : List pSV) (σ : pST) : Option (pNX ⊕ pRT) := match st with
  | v :: r => if pm_w v = 1 then pm_go pc ls r σ else none
  | _ => none
def pm_j (pc : Nat) (off : Int) (ls : pLS) (st : List pSV) (σ : pST) : Option (pNX ⊕ pRT) := if 0 ≤ (pc : Int) + off then pm_go ((pc : Int) + off).toNat ls st σ else none
def pm_if (f : Int32 → Bool) (off : Int) (pc : Nat) (ls : pLS) (st : List pSV) (σ : pST) : Option (pNX ⊕ pRT) := match st with
  | .inl x :: r => if f x = true then pm_j pc off ls r σ else pm_go (pc + 3) ls r σ
  | _ => none
def pm_ic (f : Int32 → Int32 → Bool) (off : Int) (pc : Nat) (ls : pLS) (st : List pSV) (σ : pST) : Option (pNX ⊕ pRT) := match st with
  | .inl y :: .inl x :: r => if f x y = true then pm_j pc off ls r σ else pm_go (pc + 3) ls r σ
  | _ => none
def pm_tsw (dflt lo hi : Int) (offs : Array Int) (pc : Nat) (ls : pLS) (st : List pSV) (σ : pST) : Option (pNX ⊕ pRT) := match st with
  | .inl x :: r => if x.toInt < lo ∨ hi < x.toInt then pm_j pc dflt ls r σ else (match offs[(x.toInt - lo).toNat]? with
    | some off => pm_j pc off ls r σ
    | none => none)
  | _ => none
def pm_lsw (dflt : Int) (ps : Array (Int × Int)) (pc : Nat) (ls : pLS) (st : List pSV) (σ : pST) : Option (pNX ⊕ pRT) := match st with
  | .inl x :: r => if (ps.toList.zip (ps.toList.drop 1)).all (fun (a, next) => a.1 < next.1) = true then pm_j pc (Op.lookupswitch.offset ps.toList dflt x.toInt) ls r σ else none
  | _ => none
def pm_gf (sh : pSH) (q : Option (Nat × Nat)) (pc : Nat) (ls : pLS) (st : List pSV) (σ : pST) : Option (pNX ⊕ pRT) := match q, st with
  | some (ci, k), .inr (.inr i) :: r => if sh i = .inl ci then (match (pm_fk ci)[k]? with
    | some 0 => pm_go pc ls (.inl (σ.1 i k) :: r) σ
    | some 1 => pm_go pc ls (.inl (σ.1 i k) :: r) σ
    | some 2 => pm_go pc ls (.inr (.inl (σ.2 i k)) :: r) σ
    | some 3 => pm_go pc ls (.inl (σ.1 i k) :: r) σ
    | some (d + 4) => pm_go pc ls (.inr (.inr (i + d)) :: r) σ
    | none => none) else none
  | _, _ => none
def pm_pf (sh : pSH) (q : Option (Nat × Nat)) (pc : Nat) (ls : pLS) (st : List pSV) (σ : pST) : Option (pNX ⊕ pRT) := match q, st with
  | some (ci, k), .inl x :: .inr (.inr i) :: r => if sh i = .inl ci then (match (pm_fk ci)[k]? with
    | some 0 => pm_go pc ls r (pm_ui σ.1 i k x, σ.2)
    | some 1 => if x = 0 ∨ x = 1 then pm_go pc ls r (pm_ui σ.1 i k x, σ.2) else none
    | _ => none) else none
  | some (ci, k), .inr (.inl x) :: .inr (.inr i) :: r => if sh i = .inl ci then (match (pm_fk ci)[k]? with
    | some 2 => pm_go pc ls r (σ.1, pm_uj σ.2 i k x)
    | _ => none) else none
  | _, _ => none
def pm_ial (sh : pSH) (pc : Nat) (ls : pLS) (st : List pSV) (σ : pST) : Option (pNX ⊕ pRT) := match st with
  | .inl j :: .inr (.inr i) :: r => (match sh i with
    | .inr (0, n) => if j < 0 ∨ n ≤ j.toNatClampNeg then none else pm_go pc ls (.inl (σ.1 i j.toNatClampNeg) :: r) σ
    | _ => none)
  | _ => none
def pm_zal (sh : pSH) (pc : Nat) (ls : pLS) (st : List pSV) (σ : pST) : Option (pNX ⊕ pRT) := match st with
  | .inl j :: .inr (.inr i) :: r => (match sh i with
    | .inr (2, n) => if j < 0 ∨ n ≤ j.toNatClampNeg then none else pm_go pc ls (.inl (σ.1 i j.toNatClampNeg) :: r) σ
    | _ => none)
  | _ => none
def pm_lal (sh : pSH) (pc : Nat) (ls : pLS) (st : List pSV) (σ : pST) : Option (pNX ⊕ pRT) := match st with
  | .inl j :: .inr (.inr i) :: r => (match sh i with
    | .inr (1, n) => if j < 0 ∨ n ≤ j.toNatClampNeg then none else pm_go pc ls (.inr (.inl (σ.2 i j.toNatClampNeg)) :: r) σ
    | _ => none)
  | _ => none
def pm_aal (sh : pSH) (pc : Nat) (ls : pLS) (st : List pSV) (σ : pST) : Option (pNX ⊕ pRT) := match st with
  | .inl j :: .inr (.inr i) :: r => (match sh i with
    | .inr (3, n) => if j < 0 ∨ n ≤ j.toNatClampNeg then none else pm_go pc ls (.inr (.inr (i + 1 + 8 * j.toNatClampNeg)) :: r) σ
    | _ => none)
  | _ => none
def pm_ias (sh : pSH) (pc : Nat) (ls : pLS) (st : List pSV) (σ : pST) : Option (pNX ⊕ pRT) := match st with
  | .inl x :: .inl j :: .inr (.inr i) :: r => (match sh i with
    | .inr (0, n) => if j < 0 ∨ n ≤ j.toNatClampNeg then none else pm_go pc ls r (pm_ui σ.1 i j.toNatClampNeg x, σ.2)
    | _ => none)
  | _ => none
def pm_zas (sh : pSH) (pc : Nat) (ls : pLS) (st : List pSV) (σ : pST) : Option (pNX ⊕ pRT) := match st with
  | .inl x :: .inl j :: .inr (.inr i) :: r => (match sh i with
    | .inr (2, n) => if j < 0 ∨ n ≤ j.toNatClampNeg then none else if x = 0 ∨ x = 1 then pm_go pc ls r (pm_ui σ.1 i j.toNatClampNeg x, σ.2) else none
    | _ => none)
  | _ => none
def pm_las (sh : pSH) (pc : Nat) (ls : pLS) (st : List pSV) (σ : pST) : Option (pNX ⊕ pRT) := match st with
  | .inr (.inl x) :: .inl j :: .inr (.inr i) :: r => (match sh i with
    | .inr (1, n) => if j < 0 ∨ n ≤ j.toNatClampNeg then none else pm_go pc ls r (σ.1, pm_uj σ.2 i j.toNatClampNeg x)
    | _ => none)
  | _ => none
def pm_al (sh : pSH) (pc : Nat) (ls : pLS) (st : List pSV) (σ : pST) : Option (pNX ⊕ pRT) := match st with
  | .inr (.inr i) :: r => (match sh i with
    | .inr (0, n) => pm_go pc ls (.inl (Int32.ofNat n) :: r) σ
    | .inr (1, n) => pm_go pc ls (.inl (Int32.ofNat n) :: r) σ
    | _ => none)
  | _ => none
def pm_cs (st : List pSV) : Nat := (st.map pm_w).sum
def pm_rc (sh : pSH) (rc : Option Nat) (vs : List pSV) : Prop := match rc with
  | none => True
  | some ci => ∃ i, vs.head? = some (.inr (.inr i)) ∧ sh i = .inl ci
def pm_call (q : Option (Nat × (Option Nat × pFN))) (st : Bool) (pc : Nat) (ls : pLS) (stk : List pSV) (σ : pST) : Option (pNX ⊕ pRT) := match q with
  | some (a, rc, f) => if a ≤ stk.length ∧ pm_cs (stk.drop a) ≤ 8 ∧ rc.isNone = st then (match f σ (stk.take a).reverse with
    | some (σ', r) => pm_go (pc + 3) ls (r.toList ++ stk.drop a) σ'
    | none => none) else none
  | none => none
def pm_ret (rt : Nat) (k : Nat) (st : List pSV) (σ : pST) : Option (pNX ⊕ pRT) := match rt, k, st with
  | 0, 0, [] => some (.inr (σ, none))
  | 1, 1, [.inl x] => some (.inr (σ, some (.inl x)))
  | 2, 1, [.inl x] => if x = 0 ∨ x = 1 then some (.inr (σ, some (.inl x))) else none
  | 3, 2, [.inr (.inl x)] => some (.inr (σ, some (.inr (.inl x))))
  | _, _, _ => none
def pm_ldc (v : Option (Int32 ⊕ Int64)) (pc : Nat) (ls : pLS) (st : List pSV) (σ : pST) : Option (pNX ⊕ pRT) := match v with
  | some (.inl x) => pm_go pc ls (.inl x :: st) σ
  | _ => none
def pm_ldc2 (v : Option (Int32 ⊕ Int64)) (pc : Nat) (ls : pLS) (st : List pSV) (σ : pST) : Option (pNX ⊕ pRT) := match v with
  | some (.inr x) => pm_go pc ls (.inr (.inl x) :: st) σ
  | _ => none
def pm_ins (sh : pSH) (fld : Nat → Option (Nat × Nat)) (cst : Nat → Option (Int32 ⊕ Int64)) (cal : pCL) (nL rt : Nat) (ins : Instr) (pc : Nat) (ls : pLS) (st : List pSV) (σ : pST) : Option (pNX ⊕ pRT) := match ins with
  | .iconst n => pm_go (pc + 1) ls (.inl (Int32.ofInt n) :: st) σ
  | .bipush n => pm_go (pc + 2) ls (.inl (Int8.ofInt n).toInt32 :: st) σ
  | .sipush n => pm_go (pc + 3) ls (.inl (Int16.ofInt n).toInt32 :: st) σ
  | .lconst n => pm_go (pc + 1) ls (.inr (.inl (Int64.ofNat (n : Nat))) :: st) σ
  | .ldc k => pm_ldc (cst k) (pc + 2) ls st σ
  | .ldc_w k => pm_ldc (cst k) (pc + 3) ls st σ
  | .ldc2_w k => pm_ldc2 (cst k) (pc + 3) ls st σ
  | .iload_n k => pm_ldi k (pc + 1) ls st σ
  | .iload k => pm_ldi k (pc + 2) ls st σ
  | .lload_n k => pm_ldl k (pc + 1) ls st σ
  | .lload k => pm_ldl k (pc + 2) ls st σ
  | .aload_n k => pm_lda k (pc + 1) ls st σ
  | .aload k => pm_lda k (pc + 2) ls st σ
  | .istore_n k => pm_sti nL k (pc + 1) ls st σ
  | .istore k => pm_sti nL k (pc + 2) ls st σ
  | .astore_n k => pm_sta nL k (pc + 1) ls st σ
  | .astore k => pm_sta nL k (pc + 2) ls st σ
  | .lstore k => pm_stl nL k (pc + 2) ls st σ
  | .iinc k n => pm_inc nL k n (pc + 3) ls st σ
  | .iadd => pm_ii (fun x y => x + y) (pc + 1) ls st σ
  | .isub => pm_ii (fun x y => x - y) (pc + 1) ls st σ
  | .imul => pm_ii (fun x y => x * y) (pc + 1) ls st σ
  | .iand => pm_ii (fun x y => x &&& y) (pc + 1) ls st σ
  | .ior => pm_ii (fun x y => x ||| y) (pc + 1) ls st σ
  | .ishl => pm_ii (fun x y => x <<< (y &&& 31)) (pc + 1) ls st σ
  | .iushr => pm_ii (fun x y => (x.toUInt32 >>> (y.toUInt32 &&& Int32.toUInt32 31)).toInt32) (pc + 1) ls st σ
  | .irem => pm_irem (pc + 1) ls st σ
  | .ladd => pm_ll (fun x y => x + y) (pc + 1) ls st σ
  | .lsub => pm_ll (fun x y => x - y) (pc + 1) ls st σ
  | .lmul => pm_ll (fun x y => x * y) (pc + 1) ls st σ
  | .land => pm_ll (fun x y => x &&& y) (pc + 1) ls st σ
  | .lor => pm_ll (fun x y => x ||| y) (pc + 1) ls st σ
  | .lrem => pm_lrem (pc + 1) ls st σ
  | .lcmp => pm_lcmp (pc + 1) ls st σ
  | .lshl => pm_lsh (pc + 1) ls st σ
  | .i2l => pm_i2l (pc + 1) ls st σ
  | .l2i => pm_l2i (pc + 1) ls st σ
  | .dup => pm_dup (pc + 1) ls st σ
  | .dup2 => pm_dup2 (pc + 1) ls st σ
  | .pop => pm_pop (pc + 1) ls st σ
  | .goto off => pm_j pc off ls st σ
  | .ifCond .eq off => pm_if (fun x => decide (x = 0)) off pc ls st σ
  | .ifCond .ne off => pm_if (fun x => decide (¬ x = 0)) off pc ls st σ
  | .ifCond .lt off => pm_if (fun x => decide (x < 0)) off pc ls st σ
  | .ifCond .ge off => pm_if (fun x => decide (0 ≤ x)) off pc ls st σ
  | .ifCond .gt off => pm_if (fun x => decide (0 < x)) off pc ls st σ
  | .ifCond .le off => pm_if (fun x => decide (x ≤ 0)) off pc ls st σ
  | .if_icmp .eq off => pm_ic (fun x y => decide (x = y)) off pc ls st σ
  | .if_icmp .ne off => pm_ic (fun x y => decide (¬ x = y)) off pc ls st σ
  | .if_icmp .lt off => pm_ic (fun x y => decide (x < y)) off pc ls st σ
  | .if_icmp .ge off => pm_ic (fun x y => decide (y ≤ x)) off pc ls st σ
  | .if_icmp .gt off => pm_ic (fun x y => decide (y < x)) off pc ls st σ
  | .if_icmp .le off => pm_ic (fun x y => decide (x ≤ y)) off pc ls st σ
  | .tableswitch dflt lo hi offs => pm_tsw dflt lo hi offs pc ls st σ
  | .lookupswitch dflt ps => pm_lsw dflt ps pc ls st σ
  | .getfield k => pm_gf sh (fld k) (pc + 3) ls st σ
  | .putfield k => pm_pf sh (fld k) (pc + 3) ls st σ
  | .iaload => pm_ial sh (pc + 1) ls st σ
  | .baload => pm_zal sh (pc + 1) ls st σ
  | .laload => pm_lal sh (pc + 1) ls st σ
  | .aaload => pm_aal sh (pc + 1) ls st σ
  | .iastore => pm_ias sh (pc + 1) ls st σ
  | .bastore => pm_zas sh (pc + 1) ls st σ
  | .lastore => pm_las sh (pc + 1) ls st σ
  | .arraylength => pm_al sh (pc + 1) ls st σ
  | .invokevirtual k => pm_call (cal k) false pc ls st σ
  | .invokestatic k => pm_call (cal k) true pc ls st σ
  | .ireturn => pm_ret rt 1 st σ
  | .lreturn => pm_ret rt 2 st σ
  | .return_ => pm_ret rt 0 st σ
  | _ => none
/-- how long an instruction is; 0: of any length, or none that the machine runs -/
def pm_len (ins : Instr) : Nat := match ins with
  | .iconst _ => 1 | .bipush _ => 2 | .sipush _ => 3 | .lconst _ => 1 | .ldc _ => 2 | .ldc_w _ => 3 | .ldc2_w _ => 3
  | .iload_n _ => 1 | .iload _ => 2 | .lload_n _ => 1 | .lload _ => 2 | .aload_n _ => 1 | .aload _ => 2
  | .istore_n _ => 1 | .istore _ => 2 | .astore_n _ => 1 | .astore _ => 2 | .lstore _ => 2 | .iinc _ _ => 3
  | .iadd => 1 | .isub => 1 | .imul => 1 | .iand => 1 | .ior => 1 | .ishl => 1 | .iushr => 1 | .irem => 1
  | .ladd => 1 | .lsub => 1 | .lmul => 1 | .land => 1 | .lor => 1 | .lrem => 1 | .lcmp => 1 | .lshl => 1 | .i2l => 1 | .l2i => 1
  | .dup => 1 | .dup2 => 1 | .pop => 1 | .goto _ => 3 | .ifCond _ _ => 3 | .if_icmp _ _ => 3
  | .getfield _ => 3 | .putfield _ => 3 | .iaload => 1 | .baload => 1 | .laload => 1 | .aaload => 1 | .iastore => 1 | .bastore => 1 | .lastore => 1 | .arraylength => 1
  | .invokevirtual _ => 3 | .invokestatic _ => 3 | .ireturn => 1 | .lreturn => 1 | .return_ => 1
  | _ => 0
def pm_run (sh : pSH) (tab : Nat → Option (Instr × Nat)) (fld : Nat → Option (Nat × Nat)) (cst : Nat → Option (Int32 ⊕ Int64)) (cal : pCL) (nL rt : Nat) : Nat → Nat → pLS → List pSV → pST → Option pRT
  | 0, _, _, _, _ => none
  | n + 1, pc, ls, st, σ => match tab pc with
    | none => none
    | some q => match pm_ins sh fld cst cal nL rt q.1 pc ls st σ with
      | some (.inl (pc', ls', st', σ')) => pm_run sh tab fld cst cal nL rt n pc' ls' st' σ'
      | some (.inr r) => some r
      | none => none
end
section
/-! ===== the pure machine is sound: its runs are the machine's ===== -/
theorem pm_W_get {lay : Nat → Nat} {cy : Nat → ClassId} {sh : pSH} {N : Nat} {σ : pST} {i : Nat} (h : i < N) : (pm_W lay cy sh N σ)[i]? = some (lay i, pm_E lay cy sh σ i) := by
  simp [pm_W, List.getElem?_map, List.getElem?_range h]
theorem pm_W_len {lay : Nat → Nat} {cy : Nat → ClassId} {sh : pSH} {N : Nat} {σ : pST} : (pm_W lay cy sh N σ).length = N := by simp [pm_W]
theorem pm_fs_congr {lay : Nat → Nat} {σ σ' : pST} {i : Nat} (h1 : σ'.1 i = σ.1 i) (h2 : σ'.2 i = σ.2 i) : ∀ (l : List Nat) (k : Nat), pm_fs lay σ' i k l = pm_fs lay σ i k l
  | [], _ => rfl
  | q :: l, k => by
    simp only [pm_fs]
    rw [pm_fs_congr h1 h2 l (k + 1)]
    congr 1
    unfold pm_fv
    rw [h1, h2]
theorem pm_E_congr {lay : Nat → Nat} {cy : Nat → ClassId} {sh : pSH} {σ σ' : pST} {i : Nat} (h1 : σ'.1 i = σ.1 i) (h2 : σ'.2 i = σ.2 i) : pm_E lay cy sh σ' i = pm_E lay cy sh σ i := by
  unfold pm_E
  rw [h1, h2]
  split
  · rw [pm_fs_congr h1 h2]
  all_goals rfl
theorem pm_W_set {lay : Nat → Nat} {cy : Nat → ClassId} {sh : pSH} {N : Nat} {σ σ' : pST} {i : Nat} (hi : i < N) (h : ∀ j, j ≠ i → σ'.1 j = σ.1 j ∧ σ'.2 j = σ.2 j) {e : va_E} (he : e = pm_E lay cy sh σ' i) : (pm_W lay cy sh N σ).set i (lay i, e) = pm_W lay cy sh N σ' := by
  subst he
  apply List.ext_getElem?
  intro k
  by_cases hk : k = i
  · subst hk
    rw [List.getElem?_set_self (by rw [pm_W_len]; exact hi), pm_W_get hi]
  · rw [List.getElem?_set_ne (Ne.symm hk)]
    by_cases hkN : k < N
    · rw [pm_W_get hkN, pm_W_get hkN, pm_E_congr (h k hk).1 (h k hk).2]
    · rw [List.getElem?_eq_none (by rw [pm_W_len]; omega), List.getElem?_eq_none (by rw [pm_W_len]; omega)]
theorem pm_fs_get {lay : Nat → Nat} {σ : pST} {i : Nat} : ∀ (l : List Nat) (k0 k q : Nat), l[k]? = some q → (pm_fs lay σ i k0 l)[k]? = some (pm_fv lay σ i (k0 + k) q)
  | [], _, _, _, h => by simp at h
  | a :: l, k0, 0, q, h => by
    simp at h
    subst h
    simp [pm_fs]
  | a :: l, k0, k + 1, q, h => by
    simp only [List.getElem?_cons_succ] at h
    simp only [pm_fs, List.getElem?_cons_succ]
    rw [pm_fs_get l (k0 + 1) k q h]
    congr 2
    omega
theorem pm_fs_len {lay : Nat → Nat} {σ : pST} {i : Nat} : ∀ (l : List Nat) (k0 : Nat), (pm_fs lay σ i k0 l).length = l.length
  | [], _ => rfl
  | a :: l, k0 => by simp [pm_fs, pm_fs_len l (k0 + 1)]
theorem pm_fv_congr {lay : Nat → Nat} {σ σ' : pST} {i k q : Nat} (h1 : σ'.1 i k = σ.1 i k) (h2 : σ'.2 i k = σ.2 i k) : pm_fv lay σ' i k q = pm_fv lay σ i k q := by
  unfold pm_fv
  rw [h1, h2]
theorem pm_fs_same {lay : Nat → Nat} {σ σ' : pST} {i : Nat} : ∀ (l : List Nat) (k0 : Nat), (∀ k, k0 ≤ k → σ'.1 i k = σ.1 i k ∧ σ'.2 i k = σ.2 i k) → pm_fs lay σ' i k0 l = pm_fs lay σ i k0 l
  | [], _, _ => rfl
  | a :: l, k0, h => by
    simp only [pm_fs]
    rw [pm_fv_congr (h k0 (Nat.le_refl _)).1 (h k0 (Nat.le_refl _)).2, pm_fs_same l (k0 + 1) (fun k hk => h k (by omega))]
theorem pm_fs_set {lay : Nat → Nat} {σ σ' : pST} {i : Nat} {v : Value} : ∀ (l : List Nat) (k0 k q : Nat), l[k]? = some q → pm_fv lay σ' i (k0 + k) q = v → (∀ k', k' ≠ k0 + k → σ'.1 i k' = σ.1 i k' ∧ σ'.2 i k' = σ.2 i k') → (pm_fs lay σ i k0 l).set k v = pm_fs lay σ' i k0 l
  | [], _, _, _, h, _, _ => by simp at h
  | a :: l, k0, 0, q, h, hv, ho => by
    simp at h
    subst h
    simp only [pm_fs, List.set_cons_zero]
    rw [pm_fs_same l (k0 + 1) (fun k' hk => ho k' (by omega)), ← hv]
    rfl
  | a :: l, k0, k + 1, q, h, hv, ho => by
    simp only [List.getElem?_cons_succ] at h
    simp only [pm_fs, List.set_cons_succ]
    rw [pm_fv_congr (ho k0 (by omega)).1 (ho k0 (by omega)).2, pm_fs_set l (k0 + 1) k q h (by rw [← hv]; congr 1; omega) (fun k' hk => ho k' (by omega))]
theorem pm_D {A : Nat → Prop} {lay : Nat → Nat} {cy : Nat → ClassId} {sh : pSH} {N : Nat} {σ : pST} (σ' : pST) (h : va_D A (pm_W lay cy sh N σ)) : va_D A (pm_W lay cy sh N σ') := by
  have key : ∀ (k : Nat) (q : Nat × va_E), (pm_W lay cy sh N σ')[k]? = some q → ∃ q0 : Nat × va_E, (pm_W lay cy sh N σ)[k]? = some q0 ∧ q0.1 = q.1 := by
    intro k q hk
    have hkN : k < N := by
      have := (List.getElem?_eq_some_iff.mp hk).1
      rw [pm_W_len] at this
      exact this
    rw [pm_W_get hkN] at hk
    cases hk
    exact ⟨_, pm_W_get hkN, rfl⟩
  refine ⟨fun i j a b hi hj hab => ?_, fun k q hk => ?_⟩
  · obtain ⟨a0, h1, h2⟩ := key i a hi
    obtain ⟨b0, h3, h4⟩ := key j b hj
    exact h.1 i j a0 b0 h1 h3 (h2.trans (hab.trans h4.symm))
  · obtain ⟨q0, h1, h2⟩ := key k q hk
    rw [← h2]
    exact h.2 k q0 h1
/-- what a field's row in the tables of a class must be: its kind in pm_fk -/
def pm_kd (q : Nat) (t : String × String × String × Bool) : Bool := match q with
  | 0 => !t.2.2.2 && decide (parseFieldDescriptor t.2.2.1 = some .int)
  | 1 => !t.2.2.2 && decide (parseFieldDescriptor t.2.2.1 = some .boolean)
  | 2 => !t.2.2.2 && decide (parseFieldDescriptor t.2.2.1 = some .long)
  | _ => true
def pm_cls (ci : Nat) (q : vw_C) : Prop := (pm_fk ci).length = q.2.2 ∧ (∃ ty : Nat → FieldType, ∀ k, k < q.2.2 → parseFieldDescriptor (q.2.1 k).2.2.1 = some (ty k)) ∧ (∀ a, a < q.2.2 → ∀ b, b < q.2.2 → a ≠ b → (q.2.1 a).2.1 ≠ (q.2.1 b).2.1) ∧ ∀ k, k < q.2.2 → pm_kd ((pm_fk ci).getD k 9) (q.2.1 k) = true
theorem pm_cls_0 : pm_cls 0 (RX0, TX0, 18) := ⟨rfl, ⟨tyX0, tyX0_ok⟩, nmX0, by decide +kernel⟩
theorem pm_cls_1 : pm_cls 1 (RX1, TX1, 3) := ⟨rfl, ⟨tyX1, tyX1_ok⟩, nmX1, by decide +kernel⟩
theorem pm_cls_2 : pm_cls 2 (RX2, TX2, 6) := ⟨rfl, ⟨tyX2, tyX2_ok⟩, nmX2, by decide +kernel⟩
theorem pm_cls_3 : pm_cls 3 (RX3, TX3, 3) := ⟨rfl, ⟨tyX3, tyX3_ok⟩, nmX3, by decide +kernel⟩
theorem pm_cls_4 : pm_cls 4 (RX5, TX5, 4) := ⟨rfl, ⟨tyX5, tyX5_ok⟩, nmX5, by decide +kernel⟩
theorem pm_cls_5 : pm_cls 5 (RX6, TX6, 17) := ⟨rfl, ⟨tyX6, tyX6_ok⟩, nmX6, by decide +kernel⟩
theorem pm_cls_6 : pm_cls 6 (RX7, TX7, 5) := ⟨rfl, ⟨tyX7, tyX7_ok⟩, nmX7, by decide +kernel⟩
theorem pm_cls_7 : pm_cls 7 (RX8, TX8, 61) := ⟨rfl, ⟨tyX8, tyX8_ok⟩, nmX8, by decide +kernel⟩
theorem pm_cl : ∀ (ci : Nat) (q : vw_C), vwCl[ci]? = some q → pm_cls ci q := by
  intro ci q h
  rcases ci with _ | _ | _ | _ | _ | _ | _ | _ | ci
  · cases h; exact pm_cls_0
  · cases h; exact pm_cls_1
  · cases h; exact pm_cls_2
  · cases h; exact pm_cls_3
  · cases h; exact pm_cls_4
  · cases h; exact pm_cls_5
  · cases h; exact pm_cls_6
  · cases h; exact pm_cls_7
  · simp at h
def pm_Fok (Ts : List Cond) (own : String) (idx ci k : Nat) : Prop := ∃ q : vw_C, vwCl[ci]? = some q ∧ k < q.2.2 ∧ Cond.fieldLink own idx (q.2.1 k).1 (q.2.1 k).2.1 (q.2.1 k).2.2.1 ∈ Ts ∧ ∀ w ∈ u_ws q.1 q.2.1 q.2.2, w ∈ Ts
def pm_rt (rt : Nat) : Option FieldType := match rt with
  | 0 => none
  | 1 => some .int
  | 2 => some .boolean
  | _ => some .long
def pm_Q (lay : Nat → Nat) (cy : Nat → ClassId) (sh : pSH) (N : Nat) (D : va_G) (A : Nat → Prop) (σ' : pST) (r : Option pSV) : Array Value → State → Outcome → State → Prop := fun _ st oc t => (oc = .returned (r.map (pm_v lay)) ∧ va_P D vwCl (pm_W lay cy sh N σ') t.heap) ∧ va_F A st t
theorem pm_lk_mem {ls : pLS} {k : Nat} {v : pSV} (h : pm_lk ls k = some v) : (k, v) ∈ ls := by
  unfold pm_lk at h
  cases hf : ls.find? (fun q => q.1 == k) with
  | none => rw [hf] at h; cases h
  | some q =>
    rw [hf] at h
    have h1 := List.mem_of_find?_eq_some hf
    have h2 := List.find?_some hf
    have h3 : q.1 = k := by simpa using h2
    have h4 : q.2 = v := by simpa using h
    rw [← h3, ← h4]
    exact h1
abbrev pm_L (lay : Nat → Nat) (ls : pLS) : List (Nat × Value) := ls.map (fun q => (q.1, pm_v lay q.2))
theorem pm_get {lay : Nat → Nat} {ls : pLS} {nL k : Nat} {v : pSV} {lsA : Array Slot} (hl : lv_has lsA nL (pm_L lay ls)) (h : pm_lk ls k = some v) : lsA[k]? = some (.val (pm_v lay v)) := hl.2.2 (k, pm_v lay v) (List.mem_map.mpr ⟨(k, v), pm_lk_mem h, rfl⟩)
theorem pm_cat (lay : Nat → Nat) (v : pSV) : (pm_v lay v).category = pm_w v := by
  rcases v with x | x | x <;> rfl
theorem pm_s1_L {lay : Nat → Nat} {ls : pLS} {k : Nat} {v : pSV} : (k, pm_v lay v) :: (pm_L lay ls).filter (fun q => !(q.1 == k) && !(q.1 + 1 == k && q.2.category == 2)) = pm_L lay (pm_s1 ls k v) := by
  simp only [pm_s1, pm_L, List.map_cons, List.filter_map]
  congr 3
  funext q
  simp [pm_cat]
theorem pm_s2_L {lay : Nat → Nat} {ls : pLS} {k : Nat} {v : pSV} : (k, pm_v lay v) :: (pm_L lay ls).filter (fun q => !(q.1 == k) && (!(q.1 == k + 1) && !(q.1 + 1 == k && q.2.category == 2))) = pm_L lay (pm_s2 ls k v) := by
  simp only [pm_s2, pm_L, List.map_cons, List.filter_map]
  congr 3
  funext q
  simp [pm_cat]
theorem pm_lt {sh : pSH} {N i : Nat} (hN : ∀ i, N ≤ i → sh i = .inr (9, 0)) (h : sh i ≠ .inr (9, 0)) : i < N := by
  rcases Nat.lt_or_ge i N with q | q
  · exact q
  · exact absurd (hN i q) h
end
section
/-! ===== each instruction of the pure machine by its row of the kit ===== -/
section PMI
variable {p : Program} {l : Launch} {e : Env} {R : Room} {s : State} {m : MethodId} {args : Array Value} {below : List Frame} {meth : Method} {c : Code} {Q : State → Prop}
variable {D : va_G} {lay : Nat → Nat} {cy : Nat → ClassId} {sh : pSH} {N nL : Nat} {A : Nat → Prop} {cc : ByteArray} {pc : Nat} {ls : pLS} {st : List pSV} {σ : pST} {x : pNX}
def pm_G (p : Program) (l : Launch) (e : Env) (R : Room) (s : State) (m : MethodId) (args : Array Value) (below : List Frame) (meth : Method) (c : Code) (Q : State → Prop) (D : va_G) (lay : Nat → Nat) (cy : Nat → ClassId) (sh : pSH) (N nL : Nat) (A : Nat → Prop) (x : pNX) : Prop := ∀ (H : Heap) (locs : List Loc) (lsA : Array Slot), lv_has lsA nL (pm_L lay x.2.1) → va_P D vwCl (pm_W lay cy sh N x.2.2.2) H → va_D A (pm_W lay cy sh N x.2.2.2) → va_S A s.heap H locs → W p l e R s m args below meth c H locs 0 0 Q (F0 m x.1 lsA (x.2.2.1.map (pm_v lay)))
theorem pi_iconst (hx : p.tables.exec = Jvm.exec) (hb : c.code = cc) {n : Int} (hd : decode cc pc = .ok (.iconst n, 1)) (h : pm_go (pc + 1) ls (.inl (Int32.ofInt n) :: st) σ = some (.inl x)) (K : pm_G p l e R s m args below meth c Q D lay cy sh N nL A x) : pm_G p l e R s m args below meth c Q D lay cy sh N nL A (pc, ls, st, σ) := by
  intro H locs lsA hl hP hD hS
  cases h
  exact lv_iconst hx hb hd rfl (K H locs lsA hl hP hD hS)
theorem pi_bipush (hx : p.tables.exec = Jvm.exec) (hb : c.code = cc) {n : Int} (hd : decode cc pc = .ok (.bipush n, 2)) (h : pm_go (pc + 2) ls (.inl (Int8.ofInt n).toInt32 :: st) σ = some (.inl x)) (K : pm_G p l e R s m args below meth c Q D lay cy sh N nL A x) : pm_G p l e R s m args below meth c Q D lay cy sh N nL A (pc, ls, st, σ) := by
  intro H locs lsA hl hP hD hS
  cases h
  exact lv_bipush hx hb hd rfl (K H locs lsA hl hP hD hS)
theorem pi_sipush (hx : p.tables.exec = Jvm.exec) (hb : c.code = cc) {n : Int} (hd : decode cc pc = .ok (.sipush n, 3)) (h : pm_go (pc + 3) ls (.inl (Int16.ofInt n).toInt32 :: st) σ = some (.inl x)) (K : pm_G p l e R s m args below meth c Q D lay cy sh N nL A x) : pm_G p l e R s m args below meth c Q D lay cy sh N nL A (pc, ls, st, σ) := by
  intro H locs lsA hl hP hD hS
  cases h
  exact lv_sipush hx hb hd rfl (K H locs lsA hl hP hD hS)
theorem pi_lconst (hx : p.tables.exec = Jvm.exec) (hb : c.code = cc) {n : Fin 2} (hd : decode cc pc = .ok (.lconst n, 1)) (h : pm_go (pc + 1) ls (.inr (.inl (Int64.ofNat (n : Nat))) :: st) σ = some (.inl x)) (K : pm_G p l e R s m args below meth c Q D lay cy sh N nL A x) : pm_G p l e R s m args below meth c Q D lay cy sh N nL A (pc, ls, st, σ) := by
  intro H locs lsA hl hP hD hS
  cases h
  exact lv_lconst hx hb hd rfl (K H locs lsA hl hP hD hS)
theorem pi_ldc (hx : p.tables.exec = Jvm.exec) (hb : c.code = cc) {k : Nat} {own : String} {v : Option (Int32 ⊕ Int64)} (hown : s.vm.findClass own = some m.cls) (hc : ∀ y, v = some (.inl y) → (Cond.constant own k y).before args s = true) (hd : decode cc pc = .ok (.ldc k, 2)) (h : pm_ldc v (pc + 2) ls st σ = some (.inl x)) (K : pm_G p l e R s m args below meth c Q D lay cy sh N nL A x) : pm_G p l e R s m args below meth c Q D lay cy sh N nL A (pc, ls, st, σ) := by
  intro H locs lsA hl hP hD hS
  unfold pm_ldc at h
  split at h
  · cases h
    exact lv_ldc hx hb hown (hc _ rfl) hd (K H locs lsA hl hP hD hS)
  · cases h
theorem pi_ldcw (hx : p.tables.exec = Jvm.exec) (hb : c.code = cc) {k : Nat} {own : String} {v : Option (Int32 ⊕ Int64)} (hown : s.vm.findClass own = some m.cls) (hc : ∀ y, v = some (.inl y) → (Cond.constant own k y).before args s = true) (hd : decode cc pc = .ok (.ldc_w k, 3)) (h : pm_ldc v (pc + 3) ls st σ = some (.inl x)) (K : pm_G p l e R s m args below meth c Q D lay cy sh N nL A x) : pm_G p l e R s m args below meth c Q D lay cy sh N nL A (pc, ls, st, σ) := by
  intro H locs lsA hl hP hD hS
  unfold pm_ldc at h
  split at h
  · cases h
    exact lv_ldcw hx hb hown (hc _ rfl) hd (K H locs lsA hl hP hD hS)
  · cases h
theorem pi_ldc2 (hx : p.tables.exec = Jvm.exec) (hb : c.code = cc) {k : Nat} {own : String} {v : Option (Int32 ⊕ Int64)} (hown : s.vm.findClass own = some m.cls) (hc : ∀ y, v = some (.inr y) → (Cond.constantLong own k y).before args s = true) (hd : decode cc pc = .ok (.ldc2_w k, 3)) (h : pm_ldc2 v (pc + 3) ls st σ = some (.inl x)) (K : pm_G p l e R s m args below meth c Q D lay cy sh N nL A x) : pm_G p l e R s m args below meth c Q D lay cy sh N nL A (pc, ls, st, σ) := by
  intro H locs lsA hl hP hD hS
  unfold pm_ldc2 at h
  split at h
  · cases h
    exact lv_ldc2 hx hb hown (hc _ rfl) hd (K H locs lsA hl hP hD hS)
  · cases h
theorem pi_iload_n (hx : p.tables.exec = Jvm.exec) (hb : c.code = cc) {k : Fin 4} (hd : decode cc pc = .ok (.iload_n k, 1)) (h : pm_ldi k (pc + 1) ls st σ = some (.inl x)) (K : pm_G p l e R s m args below meth c Q D lay cy sh N nL A x) : pm_G p l e R s m args below meth c Q D lay cy sh N nL A (pc, ls, st, σ) := by
  intro H locs lsA hl hP hD hS
  unfold pm_ldi at h
  split at h
  · rename_i y hq
    cases h
    exact lv_iload_n hx hb hd rfl (pm_get hl hq) (K H locs lsA hl hP hD hS)
  · cases h
theorem pi_iload (hx : p.tables.exec = Jvm.exec) (hb : c.code = cc) {k : Nat} (hd : decode cc pc = .ok (.iload k, 2)) (h : pm_ldi k (pc + 2) ls st σ = some (.inl x)) (K : pm_G p l e R s m args below meth c Q D lay cy sh N nL A x) : pm_G p l e R s m args below meth c Q D lay cy sh N nL A (pc, ls, st, σ) := by
  intro H locs lsA hl hP hD hS
  unfold pm_ldi at h
  split at h
  · rename_i y hq
    cases h
    exact lv_iload hx hb hd (pm_get hl hq) (K H locs lsA hl hP hD hS)
  · cases h
theorem pi_lload_n (hx : p.tables.exec = Jvm.exec) (hb : c.code = cc) {k : Fin 4} (hd : decode cc pc = .ok (.lload_n k, 1)) (h : pm_ldl k (pc + 1) ls st σ = some (.inl x)) (K : pm_G p l e R s m args below meth c Q D lay cy sh N nL A x) : pm_G p l e R s m args below meth c Q D lay cy sh N nL A (pc, ls, st, σ) := by
  intro H locs lsA hl hP hD hS
  unfold pm_ldl at h
  split at h
  · rename_i y hq
    cases h
    exact lv_lload_n hx hb hd rfl (pm_get hl hq) (K H locs lsA hl hP hD hS)
  · cases h
theorem pi_lload (hx : p.tables.exec = Jvm.exec) (hb : c.code = cc) {k : Nat} (hd : decode cc pc = .ok (.lload k, 2)) (h : pm_ldl k (pc + 2) ls st σ = some (.inl x)) (K : pm_G p l e R s m args below meth c Q D lay cy sh N nL A x) : pm_G p l e R s m args below meth c Q D lay cy sh N nL A (pc, ls, st, σ) := by
  intro H locs lsA hl hP hD hS
  unfold pm_ldl at h
  split at h
  · rename_i y hq
    cases h
    exact lv_lload hx hb hd (pm_get hl hq) (K H locs lsA hl hP hD hS)
  · cases h
theorem pi_aload_n (hx : p.tables.exec = Jvm.exec) (hb : c.code = cc) {k : Fin 4} (hd : decode cc pc = .ok (.aload_n k, 1)) (h : pm_lda k (pc + 1) ls st σ = some (.inl x)) (K : pm_G p l e R s m args below meth c Q D lay cy sh N nL A x) : pm_G p l e R s m args below meth c Q D lay cy sh N nL A (pc, ls, st, σ) := by
  intro H locs lsA hl hP hD hS
  unfold pm_lda at h
  split at h
  · rename_i y hq
    cases h
    exact lv_aload_n hx hb hd rfl (pm_get hl hq) (K H locs lsA hl hP hD hS)
  · cases h
theorem pi_aload (hx : p.tables.exec = Jvm.exec) (hb : c.code = cc) {k : Nat} (hd : decode cc pc = .ok (.aload k, 2)) (h : pm_lda k (pc + 2) ls st σ = some (.inl x)) (K : pm_G p l e R s m args below meth c Q D lay cy sh N nL A x) : pm_G p l e R s m args below meth c Q D lay cy sh N nL A (pc, ls, st, σ) := by
  intro H locs lsA hl hP hD hS
  unfold pm_lda at h
  split at h
  · rename_i y hq
    cases h
    exact lv_aload hx hb hd (pm_get hl hq) (K H locs lsA hl hP hD hS)
  · cases h
theorem pi_istore_n (hx : p.tables.exec = Jvm.exec) (hb : c.code = cc) {k : Fin 4} (hd : decode cc pc = .ok (.istore_n k, 1)) (h : pm_sti nL k (pc + 1) ls st σ = some (.inl x)) (K : pm_G p l e R s m args below meth c Q D lay cy sh N nL A x) : pm_G p l e R s m args below meth c Q D lay cy sh N nL A (pc, ls, st, σ) := by
  intro H locs lsA hl hP hD hS
  unfold pm_sti at h
  split at h
  · split at h
    · rename_i y r hk
      cases h
      exact lv_istore_n hx hb hd rfl hl hk (pm_s1_L (lay := lay) (ls := ls) (k := k) (v := .inl y)) (fun ls2 hl2 => K H locs ls2 hl2 hP hD hS)
    · cases h
  · cases h
theorem pi_istore (hx : p.tables.exec = Jvm.exec) (hb : c.code = cc) {k : Nat} (hd : decode cc pc = .ok (.istore k, 2)) (h : pm_sti nL k (pc + 2) ls st σ = some (.inl x)) (K : pm_G p l e R s m args below meth c Q D lay cy sh N nL A x) : pm_G p l e R s m args below meth c Q D lay cy sh N nL A (pc, ls, st, σ) := by
  intro H locs lsA hl hP hD hS
  unfold pm_sti at h
  split at h
  · split at h
    · rename_i y r hk
      cases h
      exact lv_istore hx hb hd hl hk (pm_s1_L (lay := lay) (ls := ls) (k := k) (v := .inl y)) (fun ls2 hl2 => K H locs ls2 hl2 hP hD hS)
    · cases h
  · cases h
theorem pi_astore_n (hx : p.tables.exec = Jvm.exec) (hb : c.code = cc) {k : Fin 4} (hd : decode cc pc = .ok (.astore_n k, 1)) (h : pm_sta nL k (pc + 1) ls st σ = some (.inl x)) (K : pm_G p l e R s m args below meth c Q D lay cy sh N nL A x) : pm_G p l e R s m args below meth c Q D lay cy sh N nL A (pc, ls, st, σ) := by
  intro H locs lsA hl hP hD hS
  unfold pm_sta at h
  split at h
  · split at h
    · rename_i y r hk
      cases h
      exact lv_astore_n hx hb hd rfl hl hk (pm_s1_L (lay := lay) (ls := ls) (k := k) (v := .inr (.inr y))) (fun ls2 hl2 => K H locs ls2 hl2 hP hD hS)
    · cases h
  · cases h
theorem pi_astore (hx : p.tables.exec = Jvm.exec) (hb : c.code = cc) {k : Nat} (hd : decode cc pc = .ok (.astore k, 2)) (h : pm_sta nL k (pc + 2) ls st σ = some (.inl x)) (K : pm_G p l e R s m args below meth c Q D lay cy sh N nL A x) : pm_G p l e R s m args below meth c Q D lay cy sh N nL A (pc, ls, st, σ) := by
  intro H locs lsA hl hP hD hS
  unfold pm_sta at h
  split at h
  · split at h
    · rename_i y r hk
      cases h
      exact lv_astore hx hb hd hl hk (pm_s1_L (lay := lay) (ls := ls) (k := k) (v := .inr (.inr y))) (fun ls2 hl2 => K H locs ls2 hl2 hP hD hS)
    · cases h
  · cases h
theorem pi_lstore (hx : p.tables.exec = Jvm.exec) (hb : c.code = cc) {k : Nat} (hd : decode cc pc = .ok (.lstore k, 2)) (h : pm_stl nL k (pc + 2) ls st σ = some (.inl x)) (K : pm_G p l e R s m args below meth c Q D lay cy sh N nL A x) : pm_G p l e R s m args below meth c Q D lay cy sh N nL A (pc, ls, st, σ) := by
  intro H locs lsA hl hP hD hS
  unfold pm_stl at h
  split at h
  · split at h
    · rename_i y r hk
      cases h
      exact lv_lstore hx hb hd hl hk (pm_s2_L (lay := lay) (ls := ls) (k := k) (v := .inr (.inl y))) (fun ls2 hl2 => K H locs ls2 hl2 hP hD hS)
    · cases h
  · cases h
theorem pi_iinc (hx : p.tables.exec = Jvm.exec) (hb : c.code = cc) {k : Nat} {n : Int} (hd : decode cc pc = .ok (.iinc k n, 3)) (h : pm_inc nL k n (pc + 3) ls st σ = some (.inl x)) (K : pm_G p l e R s m args below meth c Q D lay cy sh N nL A x) : pm_G p l e R s m args below meth c Q D lay cy sh N nL A (pc, ls, st, σ) := by
  intro H locs lsA hl hP hD hS
  unfold pm_inc at h
  split at h
  · rename_i y hq
    split at h
    · rename_i hk
      cases h
      obtain ⟨j, hj⟩ := List.getElem?_of_mem (List.mem_map.mpr ⟨(k, .inl y), pm_lk_mem hq, rfl⟩ : (k, pm_v lay (.inl y)) ∈ pm_L lay ls)
      exact lv_iinc hx hb hd hl hj rfl hk (pm_s1_L (lay := lay) (v := .inl (y + Int32.ofInt n))) (fun ls2 hl2 => K H locs ls2 hl2 hP hD hS)
    · cases h
  · cases h
theorem pi_iadd (hx : p.tables.exec = Jvm.exec) (hb : c.code = cc) (hd : decode cc pc = .ok (.iadd, 1)) (h : pm_ii (fun x y => x + y) (pc + 1) ls st σ = some (.inl x)) (K : pm_G p l e R s m args below meth c Q D lay cy sh N nL A x) : pm_G p l e R s m args below meth c Q D lay cy sh N nL A (pc, ls, st, σ) := by
  intro H locs lsA hl hP hD hS
  unfold pm_ii at h
  split at h
  · cases h
    exact lv_iadd hx hb hd (K H locs lsA hl hP hD hS)
  · cases h
theorem pi_isub (hx : p.tables.exec = Jvm.exec) (hb : c.code = cc) (hd : decode cc pc = .ok (.isub, 1)) (h : pm_ii (fun x y => x - y) (pc + 1) ls st σ = some (.inl x)) (K : pm_G p l e R s m args below meth c Q D lay cy sh N nL A x) : pm_G p l e R s m args below meth c Q D lay cy sh N nL A (pc, ls, st, σ) := by
  intro H locs lsA hl hP hD hS
  unfold pm_ii at h
  split at h
  · cases h
    exact lv_isub hx hb hd (K H locs lsA hl hP hD hS)
  · cases h
theorem pi_imul (hx : p.tables.exec = Jvm.exec) (hb : c.code = cc) (hd : decode cc pc = .ok (.imul, 1)) (h : pm_ii (fun x y => x * y) (pc + 1) ls st σ = some (.inl x)) (K : pm_G p l e R s m args below meth c Q D lay cy sh N nL A x) : pm_G p l e R s m args below meth c Q D lay cy sh N nL A (pc, ls, st, σ) := by
  intro H locs lsA hl hP hD hS
  unfold pm_ii at h
  split at h
  · cases h
    exact lv_imul hx hb hd (K H locs lsA hl hP hD hS)
  · cases h
theorem pi_iand (hx : p.tables.exec = Jvm.exec) (hb : c.code = cc) (hd : decode cc pc = .ok (.iand, 1)) (h : pm_ii (fun x y => x &&& y) (pc + 1) ls st σ = some (.inl x)) (K : pm_G p l e R s m args below meth c Q D lay cy sh N nL A x) : pm_G p l e R s m args below meth c Q D lay cy sh N nL A (pc, ls, st, σ) := by
  intro H locs lsA hl hP hD hS
  unfold pm_ii at h
  split at h
  · cases h
    exact lv_iand hx hb hd (K H locs lsA hl hP hD hS)
  · cases h
theorem pi_ior (hx : p.tables.exec = Jvm.exec) (hb : c.code = cc) (hd : decode cc pc = .ok (.ior, 1)) (h : pm_ii (fun x y => x ||| y) (pc + 1) ls st σ = some (.inl x)) (K : pm_G p l e R s m args below meth c Q D lay cy sh N nL A x) : pm_G p l e R s m args below meth c Q D lay cy sh N nL A (pc, ls, st, σ) := by
  intro H locs lsA hl hP hD hS
  unfold pm_ii at h
  split at h
  · cases h
    exact lv_ior hx hb hd (K H locs lsA hl hP hD hS)
  · cases h
theorem pi_ishl (hx : p.tables.exec = Jvm.exec) (hb : c.code = cc) (hd : decode cc pc = .ok (.ishl, 1)) (h : pm_ii (fun x y => x <<< (y &&& 31)) (pc + 1) ls st σ = some (.inl x)) (K : pm_G p l e R s m args below meth c Q D lay cy sh N nL A x) : pm_G p l e R s m args below meth c Q D lay cy sh N nL A (pc, ls, st, σ) := by
  intro H locs lsA hl hP hD hS
  unfold pm_ii at h
  split at h
  · cases h
    exact lv_ishl hx hb hd (K H locs lsA hl hP hD hS)
  · cases h
theorem pi_iushr (hx : p.tables.exec = Jvm.exec) (hb : c.code = cc) (hd : decode cc pc = .ok (.iushr, 1)) (h : pm_ii (fun x y => (x.toUInt32 >>> (y.toUInt32 &&& Int32.toUInt32 31)).toInt32) (pc + 1) ls st σ = some (.inl x)) (K : pm_G p l e R s m args below meth c Q D lay cy sh N nL A x) : pm_G p l e R s m args below meth c Q D lay cy sh N nL A (pc, ls, st, σ) := by
  intro H locs lsA hl hP hD hS
  unfold pm_ii at h
  split at h
  · cases h
    exact lv_iushr hx hb hd rfl (K H locs lsA hl hP hD hS)
  · cases h
theorem pi_ladd (hx : p.tables.exec = Jvm.exec) (hb : c.code = cc) (hd : decode cc pc = .ok (.ladd, 1)) (h : pm_ll (fun x y => x + y) (pc + 1) ls st σ = some (.inl x)) (K : pm_G p l e R s m args below meth c Q D lay cy sh N nL A x) : pm_G p l e R s m args below meth c Q D lay cy sh N nL A (pc, ls, st, σ) := by
  intro H locs lsA hl hP hD hS
  unfold pm_ll at h
  split at h
  · cases h
    exact lv_ladd hx hb hd (K H locs lsA hl hP hD hS)
  · cases h
theorem pi_lsub (hx : p.tables.exec = Jvm.exec) (hb : c.code = cc) (hd : decode cc pc = .ok (.lsub, 1)) (h : pm_ll (fun x y => x - y) (pc + 1) ls st σ = some (.inl x)) (K : pm_G p l e R s m args below meth c Q D lay cy sh N nL A x) : pm_G p l e R s m args below meth c Q D lay cy sh N nL A (pc, ls, st, σ) := by
  intro H locs lsA hl hP hD hS
  unfold pm_ll at h
  split at h
  · cases h
    exact lv_lsub hx hb hd (K H locs lsA hl hP hD hS)
  · cases h
theorem pi_lmul (hx : p.tables.exec = Jvm.exec) (hb : c.code = cc) (hd : decode cc pc = .ok (.lmul, 1)) (h : pm_ll (fun x y => x * y) (pc + 1) ls st σ = some (.inl x)) (K : pm_G p l e R s m args below meth c Q D lay cy sh N nL A x) : pm_G p l e R s m args below meth c Q D lay cy sh N nL A (pc, ls, st, σ) := by
  intro H locs lsA hl hP hD hS
  unfold pm_ll at h
  split at h
  · cases h
    exact lv_lmul hx hb hd (K H locs lsA hl hP hD hS)
  · cases h
theorem pi_land (hx : p.tables.exec = Jvm.exec) (hb : c.code = cc) (hd : decode cc pc = .ok (.land, 1)) (h : pm_ll (fun x y => x &&& y) (pc + 1) ls st σ = some (.inl x)) (K : pm_G p l e R s m args below meth c Q D lay cy sh N nL A x) : pm_G p l e R s m args below meth c Q D lay cy sh N nL A (pc, ls, st, σ) := by
  intro H locs lsA hl hP hD hS
  unfold pm_ll at h
  split at h
  · cases h
    exact lv_land hx hb hd (K H locs lsA hl hP hD hS)
  · cases h
theorem pi_lor (hx : p.tables.exec = Jvm.exec) (hb : c.code = cc) (hd : decode cc pc = .ok (.lor, 1)) (h : pm_ll (fun x y => x ||| y) (pc + 1) ls st σ = some (.inl x)) (K : pm_G p l e R s m args below meth c Q D lay cy sh N nL A x) : pm_G p l e R s m args below meth c Q D lay cy sh N nL A (pc, ls, st, σ) := by
  intro H locs lsA hl hP hD hS
  unfold pm_ll at h
  split at h
  · cases h
    exact lv_lor hx hb hd (K H locs lsA hl hP hD hS)
  · cases h
theorem pi_irem (hx : p.tables.exec = Jvm.exec) (hb : c.code = cc) (hd : decode cc pc = .ok (.irem, 1)) (h : pm_irem (pc + 1) ls st σ = some (.inl x)) (K : pm_G p l e R s m args below meth c Q D lay cy sh N nL A x) : pm_G p l e R s m args below meth c Q D lay cy sh N nL A (pc, ls, st, σ) := by
  intro H locs lsA hl hP hD hS
  unfold pm_irem at h
  split at h
  · split at h
    · cases h
    · rename_i hne
      cases h
      exact lv_irem hx hb hd hne (K H locs lsA hl hP hD hS)
  · cases h
theorem pi_lrem (hx : p.tables.exec = Jvm.exec) (hb : c.code = cc) (hd : decode cc pc = .ok (.lrem, 1)) (h : pm_lrem (pc + 1) ls st σ = some (.inl x)) (K : pm_G p l e R s m args below meth c Q D lay cy sh N nL A x) : pm_G p l e R s m args below meth c Q D lay cy sh N nL A (pc, ls, st, σ) := by
  intro H locs lsA hl hP hD hS
  unfold pm_lrem at h
  split at h
  · split at h
    · cases h
    · rename_i hne
      cases h
      exact lv_lrem hx hb hd hne (K H locs lsA hl hP hD hS)
  · cases h
theorem pi_lcmp (hx : p.tables.exec = Jvm.exec) (hb : c.code = cc) (hd : decode cc pc = .ok (.lcmp, 1)) (h : pm_lcmp (pc + 1) ls st σ = some (.inl x)) (K : pm_G p l e R s m args below meth c Q D lay cy sh N nL A x) : pm_G p l e R s m args below meth c Q D lay cy sh N nL A (pc, ls, st, σ) := by
  intro H locs lsA hl hP hD hS
  unfold pm_lcmp at h
  split at h
  · cases h
    exact W.lcmp hx hb hd (K H locs lsA hl hP hD hS)
  · cases h
theorem pi_lshl (hx : p.tables.exec = Jvm.exec) (hb : c.code = cc) (hd : decode cc pc = .ok (.lshl, 1)) (h : pm_lsh (pc + 1) ls st σ = some (.inl x)) (K : pm_G p l e R s m args below meth c Q D lay cy sh N nL A x) : pm_G p l e R s m args below meth c Q D lay cy sh N nL A (pc, ls, st, σ) := by
  intro H locs lsA hl hP hD hS
  unfold pm_lsh at h
  split at h
  · cases h
    exact lv_lshl hx hb hd rfl (K H locs lsA hl hP hD hS)
  · cases h
theorem pi_i2l (hx : p.tables.exec = Jvm.exec) (hb : c.code = cc) (hd : decode cc pc = .ok (.i2l, 1)) (h : pm_i2l (pc + 1) ls st σ = some (.inl x)) (K : pm_G p l e R s m args below meth c Q D lay cy sh N nL A x) : pm_G p l e R s m args below meth c Q D lay cy sh N nL A (pc, ls, st, σ) := by
  intro H locs lsA hl hP hD hS
  unfold pm_i2l at h
  split at h
  · cases h
    exact lv_i2l hx hb hd rfl (K H locs lsA hl hP hD hS)
  · cases h
theorem pi_l2i (hx : p.tables.exec = Jvm.exec) (hb : c.code = cc) (hd : decode cc pc = .ok (.l2i, 1)) (h : pm_l2i (pc + 1) ls st σ = some (.inl x)) (K : pm_G p l e R s m args below meth c Q D lay cy sh N nL A x) : pm_G p l e R s m args below meth c Q D lay cy sh N nL A (pc, ls, st, σ) := by
  intro H locs lsA hl hP hD hS
  unfold pm_l2i at h
  split at h
  · cases h
    exact lv_l2i hx hb hd rfl (K H locs lsA hl hP hD hS)
  · cases h
theorem pi_dup (hx : p.tables.exec = Jvm.exec) (hb : c.code = cc) (hd : decode cc pc = .ok (.dup, 1)) (h : pm_dup (pc + 1) ls st σ = some (.inl x)) (K : pm_G p l e R s m args below meth c Q D lay cy sh N nL A x) : pm_G p l e R s m args below meth c Q D lay cy sh N nL A (pc, ls, st, σ) := by
  intro H locs lsA hl hP hD hS
  unfold pm_dup at h
  split at h
  · split at h
    · rename_i v r hw
      cases h
      exact lv_dup hx hb hd ((pm_cat lay v).trans hw) (K H locs lsA hl hP hD hS)
    · cases h
  · cases h
theorem pi_pop (hx : p.tables.exec = Jvm.exec) (hb : c.code = cc) (hd : decode cc pc = .ok (.pop, 1)) (h : pm_pop (pc + 1) ls st σ = some (.inl x)) (K : pm_G p l e R s m args below meth c Q D lay cy sh N nL A x) : pm_G p l e R s m args below meth c Q D lay cy sh N nL A (pc, ls, st, σ) := by
  intro H locs lsA hl hP hD hS
  unfold pm_pop at h
  split at h
  · split at h
    · rename_i v r hw
      cases h
      exact lv_pop hx hb hd ((pm_cat lay v).trans hw) (K H locs lsA hl hP hD hS)
    · cases h
  · cases h
theorem pi_dup2 (hx : p.tables.exec = Jvm.exec) (hb : c.code = cc) (hd : decode cc pc = .ok (.dup2, 1)) (h : pm_dup2 (pc + 1) ls st σ = some (.inl x)) (K : pm_G p l e R s m args below meth c Q D lay cy sh N nL A x) : pm_G p l e R s m args below meth c Q D lay cy sh N nL A (pc, ls, st, σ) := by
  intro H locs lsA hl hP hD hS
  unfold pm_dup2 at h
  split at h
  · split at h
    · rename_i v u r hw
      cases h
      exact lv_dup2_11 hx hb hd ((pm_cat lay v).trans hw.1) ((pm_cat lay u).trans hw.2) (K H locs lsA hl hP hD hS)
    · cases h
  · cases h
theorem pm_jt {pc : Nat} {off : Int} (h : 0 ≤ (pc : Int) + off) : (pc : Int) + off = ((((pc : Int) + off).toNat : Nat) : Int) := (Int.toNat_of_nonneg h).symm
theorem pi_goto (hx : p.tables.exec = Jvm.exec) (hb : c.code = cc) {off : Int} (hd : decode cc pc = .ok (.goto off, 3)) (h : pm_j pc off ls st σ = some (.inl x)) (K : pm_G p l e R s m args below meth c Q D lay cy sh N nL A x) : pm_G p l e R s m args below meth c Q D lay cy sh N nL A (pc, ls, st, σ) := by
  intro H locs lsA hl hP hD hS
  unfold pm_j at h
  split at h
  · rename_i hj
    cases h
    exact lv_goto hx hb hd (pm_jt hj) (K H locs lsA hl hP hD hS)
  · cases h
theorem pi_if_eq (hx : p.tables.exec = Jvm.exec) (hb : c.code = cc) {off : Int} (HT : (pc : Int) + off = ((((pc : Int) + off).toNat : Nat) : Int)) (hd : decode cc pc = .ok (.ifCond .eq off, 3)) (h : pm_if (fun x => decide (x = 0)) off pc ls st σ = some (.inl x)) (K : pm_G p l e R s m args below meth c Q D lay cy sh N nL A x) : pm_G p l e R s m args below meth c Q D lay cy sh N nL A (pc, ls, st, σ) := by
  intro H locs lsA hl hP hD hS
  unfold pm_if at h
  split at h
  · rename_i y r
    split at h
    · rename_i hc
      have hc := of_decide_eq_true hc
      unfold pm_j at h
      split at h
      · rename_i hj
        cases h
        exact lv_if_eq hx hb hd (pm_jt hj) (fun _ => K H locs lsA hl hP hD hS) (fun q => absurd hc q)
      · cases h
    · rename_i hc
      have hc : ¬ (y = 0) := fun q => hc (decide_eq_true q)
      cases h
      exact lv_if_eq hx hb hd (tgt := ((pc : Int) + off).toNat) HT (fun q => absurd q hc) (fun _ => K H locs lsA hl hP hD hS)
  · cases h
theorem pi_if_ne (hx : p.tables.exec = Jvm.exec) (hb : c.code = cc) {off : Int} (HT : (pc : Int) + off = ((((pc : Int) + off).toNat : Nat) : Int)) (hd : decode cc pc = .ok (.ifCond .ne off, 3)) (h : pm_if (fun x => decide (¬ x = 0)) off pc ls st σ = some (.inl x)) (K : pm_G p l e R s m args below meth c Q D lay cy sh N nL A x) : pm_G p l e R s m args below meth c Q D lay cy sh N nL A (pc, ls, st, σ) := by
  intro H locs lsA hl hP hD hS
  unfold pm_if at h
  split at h
  · rename_i y r
    split at h
    · rename_i hc
      have hc := of_decide_eq_true hc
      unfold pm_j at h
      split at h
      · rename_i hj
        cases h
        exact lv_if_ne hx hb hd (pm_jt hj) (fun _ => K H locs lsA hl hP hD hS) (fun q => absurd q hc)
      · cases h
    · rename_i hc
      have hc : ¬ (¬ y = 0) := fun q => hc (decide_eq_true q)
      cases h
      exact lv_if_ne hx hb hd (tgt := ((pc : Int) + off).toNat) HT (fun q => absurd q hc) (fun _ => K H locs lsA hl hP hD hS)
  · cases h
theorem pi_if_lt (hx : p.tables.exec = Jvm.exec) (hb : c.code = cc) {off : Int} (HT : (pc : Int) + off = ((((pc : Int) + off).toNat : Nat) : Int)) (hd : decode cc pc = .ok (.ifCond .lt off, 3)) (h : pm_if (fun x => decide (x < 0)) off pc ls st σ = some (.inl x)) (K : pm_G p l e R s m args below meth c Q D lay cy sh N nL A x) : pm_G p l e R s m args below meth c Q D lay cy sh N nL A (pc, ls, st, σ) := by
  intro H locs lsA hl hP hD hS
  unfold pm_if at h
  split at h
  · rename_i y r
    split at h
    · rename_i hc
      have hc := of_decide_eq_true hc
      unfold pm_j at h
      split at h
      · rename_i hj
        cases h
        exact lv_if_lt hx hb hd (pm_jt hj) (fun _ => K H locs lsA hl hP hD hS) (fun q => absurd hc q)
      · cases h
    · rename_i hc
      have hc : ¬ (y < 0) := fun q => hc (decide_eq_true q)
      cases h
      exact lv_if_lt hx hb hd (tgt := ((pc : Int) + off).toNat) HT (fun q => absurd q hc) (fun _ => K H locs lsA hl hP hD hS)
  · cases h
theorem pi_if_ge (hx : p.tables.exec = Jvm.exec) (hb : c.code = cc) {off : Int} (HT : (pc : Int) + off = ((((pc : Int) + off).toNat : Nat) : Int)) (hd : decode cc pc = .ok (.ifCond .ge off, 3)) (h : pm_if (fun x => decide (0 ≤ x)) off pc ls st σ = some (.inl x)) (K : pm_G p l e R s m args below meth c Q D lay cy sh N nL A x) : pm_G p l e R s m args below meth c Q D lay cy sh N nL A (pc, ls, st, σ) := by
  intro H locs lsA hl hP hD hS
  unfold pm_if at h
  split at h
  · rename_i y r
    split at h
    · rename_i hc
      have hc := of_decide_eq_true hc
      unfold pm_j at h
      split at h
      · rename_i hj
        cases h
        exact lv_if_ge hx hb hd (pm_jt hj) (fun _ => K H locs lsA hl hP hD hS) (fun q => absurd hc q)
      · cases h
    · rename_i hc
      have hc : ¬ (0 ≤ y) := fun q => hc (decide_eq_true q)
      cases h
      exact lv_if_ge hx hb hd (tgt := ((pc : Int) + off).toNat) HT (fun q => absurd q hc) (fun _ => K H locs lsA hl hP hD hS)
  · cases h
theorem pi_if_gt (hx : p.tables.exec = Jvm.exec) (hb : c.code = cc) {off : Int} (HT : (pc : Int) + off = ((((pc : Int) + off).toNat : Nat) : Int)) (hd : decode cc pc = .ok (.ifCond .gt off, 3)) (h : pm_if (fun x => decide (0 < x)) off pc ls st σ = some (.inl x)) (K : pm_G p l e R s m args below meth c Q D lay cy sh N nL A x) : pm_G p l e R s m args below meth c Q D lay cy sh N nL A (pc, ls, st, σ) := by
  intro H locs lsA hl hP hD hS
  unfold pm_if at h
  split at h
  · rename_i y r
    split at h
    · rename_i hc
      have hc := of_decide_eq_true hc
      unfold pm_j at h
      split at h
      · rename_i hj
        cases h
        exact lv_if_gt hx hb hd (pm_jt hj) (fun _ => K H locs lsA hl hP hD hS) (fun q => absurd hc q)
      · cases h
    · rename_i hc
      have hc : ¬ (0 < y) := fun q => hc (decide_eq_true q)
      cases h
      exact lv_if_gt hx hb hd (tgt := ((pc : Int) + off).toNat) HT (fun q => absurd q hc) (fun _ => K H locs lsA hl hP hD hS)
  · cases h
theorem pi_if_le (hx : p.tables.exec = Jvm.exec) (hb : c.code = cc) {off : Int} (HT : (pc : Int) + off = ((((pc : Int) + off).toNat : Nat) : Int)) (hd : decode cc pc = .ok (.ifCond .le off, 3)) (h : pm_if (fun x => decide (x ≤ 0)) off pc ls st σ = some (.inl x)) (K : pm_G p l e R s m args below meth c Q D lay cy sh N nL A x) : pm_G p l e R s m args below meth c Q D lay cy sh N nL A (pc, ls, st, σ) := by
  intro H locs lsA hl hP hD hS
  unfold pm_if at h
  split at h
  · rename_i y r
    split at h
    · rename_i hc
      have hc := of_decide_eq_true hc
      unfold pm_j at h
      split at h
      · rename_i hj
        cases h
        exact lv_if_le hx hb hd (pm_jt hj) (fun _ => K H locs lsA hl hP hD hS) (fun q => absurd hc q)
      · cases h
    · rename_i hc
      have hc : ¬ (y ≤ 0) := fun q => hc (decide_eq_true q)
      cases h
      exact lv_if_le hx hb hd (tgt := ((pc : Int) + off).toNat) HT (fun q => absurd q hc) (fun _ => K H locs lsA hl hP hD hS)
  · cases h
theorem pi_ic_eq (hx : p.tables.exec = Jvm.exec) (hb : c.code = cc) {off : Int} (HT : (pc : Int) + off = ((((pc : Int) + off).toNat : Nat) : Int)) (hd : decode cc pc = .ok (.if_icmp .eq off, 3)) (h : pm_ic (fun x y => decide (x = y)) off pc ls st σ = some (.inl x)) (K : pm_G p l e R s m args below meth c Q D lay cy sh N nL A x) : pm_G p l e R s m args below meth c Q D lay cy sh N nL A (pc, ls, st, σ) := by
  intro H locs lsA hl hP hD hS
  unfold pm_ic at h
  split at h
  · rename_i b a r
    split at h
    · rename_i hc
      have hc := of_decide_eq_true hc
      unfold pm_j at h
      split at h
      · rename_i hj
        cases h
        exact lv_icmp_eq hx hb hd (pm_jt hj) (fun _ => K H locs lsA hl hP hD hS) (fun q => absurd hc q)
      · cases h
    · rename_i hc
      have hc : ¬ (a = b) := fun q => hc (decide_eq_true q)
      cases h
      exact lv_icmp_eq hx hb hd (tgt := ((pc : Int) + off).toNat) HT (fun q => absurd q hc) (fun _ => K H locs lsA hl hP hD hS)
  · cases h
theorem pi_ic_ne (hx : p.tables.exec = Jvm.exec) (hb : c.code = cc) {off : Int} (HT : (pc : Int) + off = ((((pc : Int) + off).toNat : Nat) : Int)) (hd : decode cc pc = .ok (.if_icmp .ne off, 3)) (h : pm_ic (fun x y => decide (¬ x = y)) off pc ls st σ = some (.inl x)) (K : pm_G p l e R s m args below meth c Q D lay cy sh N nL A x) : pm_G p l e R s m args below meth c Q D lay cy sh N nL A (pc, ls, st, σ) := by
  intro H locs lsA hl hP hD hS
  unfold pm_ic at h
  split at h
  · rename_i b a r
    split at h
    · rename_i hc
      have hc := of_decide_eq_true hc
      unfold pm_j at h
      split at h
      · rename_i hj
        cases h
        exact lv_icmp_ne hx hb hd (pm_jt hj) (fun _ => K H locs lsA hl hP hD hS) (fun q => absurd q hc)
      · cases h
    · rename_i hc
      have hc : ¬ (¬ a = b) := fun q => hc (decide_eq_true q)
      cases h
      exact lv_icmp_ne hx hb hd (tgt := ((pc : Int) + off).toNat) HT (fun q => absurd q hc) (fun _ => K H locs lsA hl hP hD hS)
  · cases h
theorem pi_ic_lt (hx : p.tables.exec = Jvm.exec) (hb : c.code = cc) {off : Int} (HT : (pc : Int) + off = ((((pc : Int) + off).toNat : Nat) : Int)) (hd : decode cc pc = .ok (.if_icmp .lt off, 3)) (h : pm_ic (fun x y => decide (x < y)) off pc ls st σ = some (.inl x)) (K : pm_G p l e R s m args below meth c Q D lay cy sh N nL A x) : pm_G p l e R s m args below meth c Q D lay cy sh N nL A (pc, ls, st, σ) := by
  intro H locs lsA hl hP hD hS
  unfold pm_ic at h
  split at h
  · rename_i b a r
    split at h
    · rename_i hc
      have hc := of_decide_eq_true hc
      unfold pm_j at h
      split at h
      · rename_i hj
        cases h
        exact lv_icmp_lt hx hb hd (pm_jt hj) (fun _ => K H locs lsA hl hP hD hS) (fun q => absurd hc q)
      · cases h
    · rename_i hc
      have hc : ¬ (a < b) := fun q => hc (decide_eq_true q)
      cases h
      exact lv_icmp_lt hx hb hd (tgt := ((pc : Int) + off).toNat) HT (fun q => absurd q hc) (fun _ => K H locs lsA hl hP hD hS)
  · cases h
theorem pi_ic_ge (hx : p.tables.exec = Jvm.exec) (hb : c.code = cc) {off : Int} (HT : (pc : Int) + off = ((((pc : Int) + off).toNat : Nat) : Int)) (hd : decode cc pc = .ok (.if_icmp .ge off, 3)) (h : pm_ic (fun x y => decide (y ≤ x)) off pc ls st σ = some (.inl x)) (K : pm_G p l e R s m args below meth c Q D lay cy sh N nL A x) : pm_G p l e R s m args below meth c Q D lay cy sh N nL A (pc, ls, st, σ) := by
  intro H locs lsA hl hP hD hS
  unfold pm_ic at h
  split at h
  · rename_i b a r
    split at h
    · rename_i hc
      have hc := of_decide_eq_true hc
      unfold pm_j at h
      split at h
      · rename_i hj
        cases h
        exact lv_icmp_ge hx hb hd (pm_jt hj) (fun _ => K H locs lsA hl hP hD hS) (fun q => absurd hc q)
      · cases h
    · rename_i hc
      have hc : ¬ (b ≤ a) := fun q => hc (decide_eq_true q)
      cases h
      exact lv_icmp_ge hx hb hd (tgt := ((pc : Int) + off).toNat) HT (fun q => absurd q hc) (fun _ => K H locs lsA hl hP hD hS)
  · cases h
theorem pi_ic_gt (hx : p.tables.exec = Jvm.exec) (hb : c.code = cc) {off : Int} (HT : (pc : Int) + off = ((((pc : Int) + off).toNat : Nat) : Int)) (hd : decode cc pc = .ok (.if_icmp .gt off, 3)) (h : pm_ic (fun x y => decide (y < x)) off pc ls st σ = some (.inl x)) (K : pm_G p l e R s m args below meth c Q D lay cy sh N nL A x) : pm_G p l e R s m args below meth c Q D lay cy sh N nL A (pc, ls, st, σ) := by
  intro H locs lsA hl hP hD hS
  unfold pm_ic at h
  split at h
  · rename_i b a r
    split at h
    · rename_i hc
      have hc := of_decide_eq_true hc
      unfold pm_j at h
      split at h
      · rename_i hj
        cases h
        exact lv_icmp_gt hx hb hd (pm_jt hj) (fun _ => K H locs lsA hl hP hD hS) (fun q => absurd hc q)
      · cases h
    · rename_i hc
      have hc : ¬ (b < a) := fun q => hc (decide_eq_true q)
      cases h
      exact lv_icmp_gt hx hb hd (tgt := ((pc : Int) + off).toNat) HT (fun q => absurd q hc) (fun _ => K H locs lsA hl hP hD hS)
  · cases h
theorem pi_ic_le (hx : p.tables.exec = Jvm.exec) (hb : c.code = cc) {off : Int} (HT : (pc : Int) + off = ((((pc : Int) + off).toNat : Nat) : Int)) (hd : decode cc pc = .ok (.if_icmp .le off, 3)) (h : pm_ic (fun x y => decide (x ≤ y)) off pc ls st σ = some (.inl x)) (K : pm_G p l e R s m args below meth c Q D lay cy sh N nL A x) : pm_G p l e R s m args below meth c Q D lay cy sh N nL A (pc, ls, st, σ) := by
  intro H locs lsA hl hP hD hS
  unfold pm_ic at h
  split at h
  · rename_i b a r
    split at h
    · rename_i hc
      have hc := of_decide_eq_true hc
      unfold pm_j at h
      split at h
      · rename_i hj
        cases h
        exact lv_icmp_le hx hb hd (pm_jt hj) (fun _ => K H locs lsA hl hP hD hS) (fun q => absurd hc q)
      · cases h
    · rename_i hc
      have hc : ¬ (a ≤ b) := fun q => hc (decide_eq_true q)
      cases h
      exact lv_icmp_le hx hb hd (tgt := ((pc : Int) + off).toNat) HT (fun q => absurd q hc) (fun _ => K H locs lsA hl hP hD hS)
  · cases h
theorem pi_tsw (hx : p.tables.exec = Jvm.exec) (hb : c.code = cc) {dflt lo hi : Int} {offs : Array Int} {len : Nat} (hd : decode cc pc = .ok (.tableswitch dflt lo hi offs, len)) (h : pm_tsw dflt lo hi offs pc ls st σ = some (.inl x)) (K : pm_G p l e R s m args below meth c Q D lay cy sh N nL A x) : pm_G p l e R s m args below meth c Q D lay cy sh N nL A (pc, ls, st, σ) := by
  intro H locs lsA hl hP hD hS
  unfold pm_tsw at h
  split at h
  · rename_i y r
    split at h
    · rename_i hc
      unfold pm_j at h
      split at h
      · rename_i hj
        cases h
        exact lv_tableOut hx hb hd hc (pm_jt hj) (K H locs lsA hl hP hD hS)
      · cases h
    · rename_i hc
      split at h
      · rename_i off ho
        unfold pm_j at h
        split at h
        · rename_i hj
          cases h
          exact lv_tableIn hx hb hd (fun q => hc (Or.inl q)) (fun q => hc (Or.inr q)) ho (pm_jt hj) (K H locs lsA hl hP hD hS)
        · cases h
      · cases h
  · cases h
theorem pi_lsw (hx : p.tables.exec = Jvm.exec) (hb : c.code = cc) {dflt : Int} {ps : Array (Int × Int)} {len : Nat} (hd : decode cc pc = .ok (.lookupswitch dflt ps, len)) (h : pm_lsw dflt ps pc ls st σ = some (.inl x)) (K : pm_G p l e R s m args below meth c Q D lay cy sh N nL A x) : pm_G p l e R s m args below meth c Q D lay cy sh N nL A (pc, ls, st, σ) := by
  intro H locs lsA hl hP hD hS
  unfold pm_lsw at h
  split at h
  · rename_i y r
    split at h
    · rename_i hp
      unfold pm_j at h
      split at h
      · rename_i hj
        cases h
        exact lv_lookup hx hb hd hp rfl (pm_jt hj) (K H locs lsA hl hP hD hS)
      · cases h
    · cases h
  · cases h
end PMI
end
section
/-! ===== fields, arrays, returns and calls of the pure machine ===== -/
theorem pm_W_obj {lay : Nat → Nat} {cy : Nat → ClassId} {sh : pSH} {N : Nat} {σ : pST} {i ci : Nat} (h : i < N) (hs : sh i = .inl ci) : (pm_W lay cy sh N σ)[i]? = some (lay i, .inr (ci, pm_fs lay σ i 0 (pm_fk ci))) := by
  rw [pm_W_get h]; unfold pm_E; rw [hs]
theorem pm_W_int {lay : Nat → Nat} {cy : Nat → ClassId} {sh : pSH} {N : Nat} {σ : pST} {i n : Nat} (h : i < N) (hs : sh i = .inr (0, n)) : (pm_W lay cy sh N σ)[i]? = some (lay i, .inl (cy 0, n, .inl (σ.1 i))) := by
  rw [pm_W_get h]; unfold pm_E; rw [hs]; rfl
theorem pm_W_lng {lay : Nat → Nat} {cy : Nat → ClassId} {sh : pSH} {N : Nat} {σ : pST} {i n : Nat} (h : i < N) (hs : sh i = .inr (1, n)) : (pm_W lay cy sh N σ)[i]? = some (lay i, .inl (cy 1, n, .inr (.inl (σ.2 i)))) := by
  rw [pm_W_get h]; unfold pm_E; rw [hs]; rfl
theorem pm_W_boo {lay : Nat → Nat} {cy : Nat → ClassId} {sh : pSH} {N : Nat} {σ : pST} {i n : Nat} (h : i < N) (hs : sh i = .inr (2, n)) : (pm_W lay cy sh N σ)[i]? = some (lay i, .inl (cy 2, n, .inl (σ.1 i))) := by
  rw [pm_W_get h]; unfold pm_E; rw [hs]; rfl
theorem pm_W_ref {lay : Nat → Nat} {cy : Nat → ClassId} {sh : pSH} {N : Nat} {σ : pST} {i n : Nat} (h : i < N) (hs : sh i = .inr (3, n)) : (pm_W lay cy sh N σ)[i]? = some (lay i, .inl (cy 3, n, .inr (.inr (.inr (.inr (fun j => some (lay (i + 1 + 8 * j)))))))) := by
  rw [pm_W_get h]; unfold pm_E; rw [hs]; rfl
theorem pm_E_obj {lay : Nat → Nat} {cy : Nat → ClassId} {sh : pSH} {σ : pST} {i ci : Nat} (hs : sh i = .inl ci) : pm_E lay cy sh σ i = .inr (ci, pm_fs lay σ i 0 (pm_fk ci)) := by unfold pm_E; rw [hs]
theorem pm_E_int {lay : Nat → Nat} {cy : Nat → ClassId} {sh : pSH} {σ : pST} {i n : Nat} (hs : sh i = .inr (0, n)) : pm_E lay cy sh σ i = .inl (cy 0, n, .inl (σ.1 i)) := by unfold pm_E; rw [hs]; rfl
theorem pm_E_lng {lay : Nat → Nat} {cy : Nat → ClassId} {sh : pSH} {σ : pST} {i n : Nat} (hs : sh i = .inr (1, n)) : pm_E lay cy sh σ i = .inl (cy 1, n, .inr (.inl (σ.2 i))) := by unfold pm_E; rw [hs]; rfl
theorem pm_E_boo {lay : Nat → Nat} {cy : Nat → ClassId} {sh : pSH} {σ : pST} {i n : Nat} (hs : sh i = .inr (2, n)) : pm_E lay cy sh σ i = .inl (cy 2, n, .inl (σ.1 i)) := by unfold pm_E; rw [hs]; rfl
theorem pm_ui_s {I : Nat → Nat → Int32} {i k : Nat} {x : Int32} : pm_ui I i k x i = upd (I i) k x := by simp [pm_ui]
theorem pm_ui_n {I : Nat → Nat → Int32} {i k j : Nat} {x : Int32} (h : j ≠ i) : pm_ui I i k x j = I j := by simp [pm_ui, h]
theorem pm_uj_s {J : Nat → Nat → Int64} {i k : Nat} {x : Int64} : pm_uj J i k x i = vp_updL (J i) k x := by simp [pm_uj]
theorem pm_uj_n {J : Nat → Nat → Int64} {i k j : Nat} {x : Int64} (h : j ≠ i) : pm_uj J i k x j = J j := by simp [pm_uj, h]
theorem pm_ui_e {I : Nat → Nat → Int32} {i k : Nat} {x : Int32} : pm_ui I i k x i k = x := by simp [pm_ui, upd]
theorem pm_ui_o {I : Nat → Nat → Int32} {i k a b : Nat} {x : Int32} (h : b ≠ k) : pm_ui I i k x a b = I a b := by
  by_cases ha : a = i
  · subst ha; simp [pm_ui, upd, h]
  · simp [pm_ui, ha]
theorem pm_uj_e {J : Nat → Nat → Int64} {i k : Nat} {x : Int64} : pm_uj J i k x i k = x := by simp [pm_uj, vp_updL]
theorem pm_uj_o {J : Nat → Nat → Int64} {i k a b : Nat} {x : Int64} (h : b ≠ k) : pm_uj J i k x a b = J a b := by
  by_cases ha : a = i
  · subst ha; simp [pm_uj, vp_updL, h]
  · simp [pm_uj, ha]
theorem pm_kd_at {ci k q : Nat} {r : vw_C} (hc : vwCl[ci]? = some r) (hk : k < r.2.2) (hq : (pm_fk ci)[k]? = some q) : pm_kd q (r.2.1 k) = true := by
  have h := (pm_cl ci r hc).2.2.2 k hk
  rw [List.getD_eq_getElem?_getD, hq] at h
  exact h
section PMH
variable {p : Program} {l : Launch} {e : Env} {R : Room} {s : State} {m : MethodId} {args : Array Value} {below : List Frame} {meth : Method} {c : Code} {Q : State → Prop}
variable {D : va_G} {lay : Nat → Nat} {cy : Nat → ClassId} {sh : pSH} {N nL : Nat} {A : Nat → Prop} {cc : ByteArray} {pc : Nat} {ls : pLS} {st : List pSV} {σ : pST} {x : pNX}
variable {own : String} {Ts : List Cond}
theorem pi_get (hx : p.tables.exec = Jvm.exec) (hb : c.code = cc) (hown : s.vm.findClass own = some m.cls) (hts : ∀ w ∈ Ts, w.before args s = true) (hK : va_K D vwCl (pm_T cy) s) (hN : ∀ i, N ≤ i → sh i = .inr (9, 0)) {idx : Nat} {q : Option (Nat × Nat)} (hF : ∀ ci k, q = some (ci, k) → pm_Fok Ts own idx ci k) (hd : decode cc pc = .ok (.getfield idx, 3)) (h : pm_gf sh q (pc + 3) ls st σ = some (.inl x)) (K : pm_G p l e R s m args below meth c Q D lay cy sh N nL A x) : pm_G p l e R s m args below meth c Q D lay cy sh N nL A (pc, ls, st, σ) := by
  intro H locs lsA hl hP hD hS
  unfold pm_gf at h
  split at h
  · rename_i ci k i r
    split at h
    · rename_i hsh
      obtain ⟨⟨C, T, n⟩, hc, hk, hlink, hin⟩ := hF ci k rfl
      have hi : i < N := pm_lt hN (by rw [hsh]; simp)
      have he := pm_W_obj (lay := lay) (cy := cy) (σ := σ) hi hsh
      split at h
      · rename_i hq
        cases h
        exact va_get (D := D) (ci := ci) (v := .int (σ.1 i k)) hx hb hts hin hown hK hP i he hc k hk (hts _ hlink) (fun _ h9 => h9) (by have := pm_fs_get (lay := lay) (σ := σ) (i := i) _ 0 k _ hq; simpa [pm_fv] using this) hd (K H locs lsA hl hP hD hS)
      · rename_i hq
        cases h
        exact va_get (D := D) (ci := ci) (v := .int (σ.1 i k)) hx hb hts hin hown hK hP i he hc k hk (hts _ hlink) (fun _ h9 => h9) (by have := pm_fs_get (lay := lay) (σ := σ) (i := i) _ 0 k _ hq; simpa [pm_fv] using this) hd (K H locs lsA hl hP hD hS)
      · rename_i hq
        cases h
        exact va_get (D := D) (ci := ci) (v := .long (σ.2 i k)) hx hb hts hin hown hK hP i he hc k hk (hts _ hlink) (fun _ h9 => h9) (by have := pm_fs_get (lay := lay) (σ := σ) (i := i) _ 0 k _ hq; simpa [pm_fv] using this) hd (K H locs lsA hl hP hD hS)
      · rename_i hq
        cases h
        exact va_get (D := D) (ci := ci) (v := .int (σ.1 i k)) hx hb hts hin hown hK hP i he hc k hk (hts _ hlink) (fun _ h9 => h9) (by have := pm_fs_get (lay := lay) (σ := σ) (i := i) _ 0 k _ hq; simpa [pm_fv] using this) hd (K H locs lsA hl hP hD hS)
      · rename_i d hq
        cases h
        exact va_get (D := D) (ci := ci) (v := .ref (lay (i + d))) hx hb hts hin hown hK hP i he hc k hk (hts _ hlink) (fun _ h9 => h9) (by have := pm_fs_get (lay := lay) (σ := σ) (i := i) _ 0 k _ hq; simpa [pm_fv] using this) hd (K H locs lsA hl hP hD hS)
      · cases h
    · cases h
  · cases h
theorem pi_put (hx : p.tables.exec = Jvm.exec) (hb : c.code = cc) (hown : s.vm.findClass own = some m.cls) (hts : ∀ w ∈ Ts, w.before args s = true) (hK : va_K D vwCl (pm_T cy) s) (hN : ∀ i, N ≤ i → sh i = .inr (9, 0)) {idx : Nat} {q : Option (Nat × Nat)} (hF : ∀ ci k, q = some (ci, k) → pm_Fok Ts own idx ci k) (hd : decode cc pc = .ok (.putfield idx, 3)) (h : pm_pf sh q (pc + 3) ls st σ = some (.inl x)) (K : pm_G p l e R s m args below meth c Q D lay cy sh N nL A x) : pm_G p l e R s m args below meth c Q D lay cy sh N nL A (pc, ls, st, σ) := by
  intro H locs lsA hl hP hD hS
  unfold pm_pf at h
  split at h
  · rename_i ci k y i r
    split at h
    · rename_i hsh
      obtain ⟨⟨C, T, n⟩, hc, hk, hlink, hin⟩ := hF ci k rfl
      have hi : i < N := pm_lt hN (by rw [hsh]; simp)
      have he := pm_W_obj (lay := lay) (cy := cy) (σ := σ) hi hsh
      obtain ⟨hlen, ⟨ty, hty⟩, hnm, -⟩ := pm_cl ci _ hc
      have hl9 : k < (pm_fs lay σ i 0 (pm_fk ci)).length := by rw [pm_fs_len, hlen]; exact hk
      have hset : ∀ qq, (pm_fk ci)[k]? = some qq → (∀ σ9 : pST, pm_fv lay σ9 i k qq = .int (σ9.1 i k)) → (pm_W lay cy sh N σ).set i (lay i, .inr (ci, (pm_fs lay σ i 0 (pm_fk ci)).set k (.int y))) = pm_W lay cy sh N (pm_ui σ.1 i k y, σ.2) := by
        intro qq hq hfv
        refine pm_W_set (σ := σ) (σ' := (pm_ui σ.1 i k y, σ.2)) hi (fun j hj => ⟨pm_ui_n hj, rfl⟩) ?_
        rw [pm_E_obj hsh, pm_fs_set (σ' := (pm_ui σ.1 i k y, σ.2)) _ 0 k _ hq (by rw [Nat.zero_add, hfv]; exact congrArg _ pm_ui_e) (fun k' hk' => ⟨pm_ui_o (by omega), rfl⟩)]
      split at h
      · rename_i hq
        cases h
        have hkd := pm_kd_at hc hk hq
        simp only [pm_kd, Bool.and_eq_true, Bool.not_eq_true', decide_eq_true_eq] at hkd
        refine va_put (D := D) (ci := ci) (v := .int y) (ty := .int) hx hb hts hin ty hty hnm hown hK hP hD hS i he hc k hk (hts _ hlink) (fun _ h9 => h9) hkd.1 hkd.2 rfl rfl hl9 hd (fun H1 locs1 hP1 hD1 hS1 => ?_)
        rw [hset _ hq (fun _ => rfl)] at hP1 hD1
        exact K H1 locs1 lsA hl hP1 hD1 hS1
      · rename_i hq
        split at h
        · rename_i hy
          cases h
          have hkd := pm_kd_at hc hk hq
          simp only [pm_kd, Bool.and_eq_true, Bool.not_eq_true', decide_eq_true_eq] at hkd
          refine va_put (D := D) (ci := ci) (v := .int y) (ty := .boolean) hx hb hts hin ty hty hnm hown hK hP hD hS i he hc k hk (hts _ hlink) (fun _ h9 => h9) hkd.1 hkd.2 (by rcases hy with rfl | rfl <;> rfl) (by rcases hy with rfl | rfl <;> rfl) hl9 hd (fun H1 locs1 hP1 hD1 hS1 => ?_)
          rw [hset _ hq (fun _ => rfl)] at hP1 hD1
          exact K H1 locs1 lsA hl hP1 hD1 hS1
        · cases h
      · cases h
    · cases h
  · rename_i ci k y i r
    split at h
    · rename_i hsh
      obtain ⟨⟨C, T, n⟩, hc, hk, hlink, hin⟩ := hF ci k rfl
      have hi : i < N := pm_lt hN (by rw [hsh]; simp)
      have he := pm_W_obj (lay := lay) (cy := cy) (σ := σ) hi hsh
      obtain ⟨hlen, ⟨ty, hty⟩, hnm, -⟩ := pm_cl ci _ hc
      have hl9 : k < (pm_fs lay σ i 0 (pm_fk ci)).length := by rw [pm_fs_len, hlen]; exact hk
      split at h
      · rename_i hq
        cases h
        have hkd := pm_kd_at hc hk hq
        simp only [pm_kd, Bool.and_eq_true, Bool.not_eq_true', decide_eq_true_eq] at hkd
        have hset : (pm_W lay cy sh N σ).set i (lay i, .inr (ci, (pm_fs lay σ i 0 (pm_fk ci)).set k (.long y))) = pm_W lay cy sh N (σ.1, pm_uj σ.2 i k y) := by
          refine pm_W_set (σ := σ) (σ' := (σ.1, pm_uj σ.2 i k y)) hi (fun j hj => ⟨rfl, pm_uj_n hj⟩) ?_
          rw [pm_E_obj hsh, pm_fs_set (lay := lay) (σ := σ) (σ' := (σ.1, pm_uj σ.2 i k y)) (i := i) (v := .long y) _ 0 k _ hq (by rw [Nat.zero_add]; exact congrArg Value.long pm_uj_e) (fun k' hk' => ⟨rfl, pm_uj_o (by omega)⟩)]
        refine va_put (D := D) (ci := ci) (v := .long y) (ty := .long) hx hb hts hin ty hty hnm hown hK hP hD hS i he hc k hk (hts _ hlink) (fun _ h9 => h9) hkd.1 hkd.2 rfl rfl hl9 hd (fun H1 locs1 hP1 hD1 hS1 => ?_)
        rw [hset] at hP1 hD1
        exact K H1 locs1 lsA hl hP1 hD1 hS1
      · cases h
    · cases h
  · cases h
theorem pi_ial (hx : p.tables.exec = Jvm.exec) (hb : c.code = cc) (hK : va_K D vwCl (pm_T cy) s) (hN : ∀ i, N ≤ i → sh i = .inr (9, 0)) (hd : decode cc pc = .ok (.iaload, 1)) (h : pm_ial sh (pc + 1) ls st σ = some (.inl x)) (K : pm_G p l e R s m args below meth c Q D lay cy sh N nL A x) : pm_G p l e R s m args below meth c Q D lay cy sh N nL A (pc, ls, st, σ) := by
  intro H locs lsA hl hP hD hS
  unfold pm_ial at h
  split at h
  · rename_i j i r
    split at h
    · rename_i n hsh
      split at h
      · cases h
      · rename_i hin
        cases h
        exact va_iald hx hb hK hP i 0 (pm_W_int (pm_lt hN (by rw [hsh]; simp)) hsh) rfl hin hd (K H locs lsA hl hP hD hS)
    · cases h
  · cases h
theorem pi_zal (hx : p.tables.exec = Jvm.exec) (hb : c.code = cc) (hK : va_K D vwCl (pm_T cy) s) (hN : ∀ i, N ≤ i → sh i = .inr (9, 0)) (hd : decode cc pc = .ok (.baload, 1)) (h : pm_zal sh (pc + 1) ls st σ = some (.inl x)) (K : pm_G p l e R s m args below meth c Q D lay cy sh N nL A x) : pm_G p l e R s m args below meth c Q D lay cy sh N nL A (pc, ls, st, σ) := by
  intro H locs lsA hl hP hD hS
  unfold pm_zal at h
  split at h
  · rename_i j i r
    split at h
    · rename_i n hsh
      split at h
      · cases h
      · rename_i hin
        cases h
        exact va_zald hx hb hK hP i 2 (pm_W_boo (pm_lt hN (by rw [hsh]; simp)) hsh) rfl hin hd (K H locs lsA hl hP hD hS)
    · cases h
  · cases h
theorem pi_lal (hx : p.tables.exec = Jvm.exec) (hb : c.code = cc) (hK : va_K D vwCl (pm_T cy) s) (hN : ∀ i, N ≤ i → sh i = .inr (9, 0)) (hd : decode cc pc = .ok (.laload, 1)) (h : pm_lal sh (pc + 1) ls st σ = some (.inl x)) (K : pm_G p l e R s m args below meth c Q D lay cy sh N nL A x) : pm_G p l e R s m args below meth c Q D lay cy sh N nL A (pc, ls, st, σ) := by
  intro H locs lsA hl hP hD hS
  unfold pm_lal at h
  split at h
  · rename_i j i r
    split at h
    · rename_i n hsh
      split at h
      · cases h
      · rename_i hin
        cases h
        exact va_lald hx hb hK hP i 1 (pm_W_lng (pm_lt hN (by rw [hsh]; simp)) hsh) rfl hin hd (K H locs lsA hl hP hD hS)
    · cases h
  · cases h
theorem pi_aal (hx : p.tables.exec = Jvm.exec) (hb : c.code = cc) (hK : va_K D vwCl (pm_T cy) s) (hN : ∀ i, N ≤ i → sh i = .inr (9, 0)) (hd : decode cc pc = .ok (.aaload, 1)) (h : pm_aal sh (pc + 1) ls st σ = some (.inl x)) (K : pm_G p l e R s m args below meth c Q D lay cy sh N nL A x) : pm_G p l e R s m args below meth c Q D lay cy sh N nL A (pc, ls, st, σ) := by
  intro H locs lsA hl hP hD hS
  unfold pm_aal at h
  split at h
  · rename_i j i r
    split at h
    · rename_i n hsh
      split at h
      · cases h
      · rename_i hin
        cases h
        exact va_aldq hx hb hK hP i 3 (pm_W_ref (pm_lt hN (by rw [hsh]; simp)) hsh) rfl hin hd (K H locs lsA hl hP hD hS)
    · cases h
  · cases h
theorem pi_ias (hx : p.tables.exec = Jvm.exec) (hb : c.code = cc) (hK : va_K D vwCl (pm_T cy) s) (hN : ∀ i, N ≤ i → sh i = .inr (9, 0)) (hd : decode cc pc = .ok (.iastore, 1)) (h : pm_ias sh (pc + 1) ls st σ = some (.inl x)) (K : pm_G p l e R s m args below meth c Q D lay cy sh N nL A x) : pm_G p l e R s m args below meth c Q D lay cy sh N nL A (pc, ls, st, σ) := by
  intro H locs lsA hl hP hD hS
  unfold pm_ias at h
  split at h
  · rename_i y j i r
    split at h
    · rename_i n hsh
      split at h
      · cases h
      · rename_i hin
        cases h
        have hi : i < N := pm_lt hN (by rw [hsh]; simp)
        refine va_iast hx hb hK hP hD hS i 0 (pm_W_int hi hsh) rfl hin hd (fun H1 locs1 hP1 hD1 hS1 => ?_)
        have hset : (pm_W lay cy sh N σ).set i (lay i, .inl (cy 0, n, .inl (upd (σ.1 i) j.toNatClampNeg y))) = pm_W lay cy sh N (pm_ui σ.1 i j.toNatClampNeg y, σ.2) := by
          refine pm_W_set (σ := σ) (σ' := (pm_ui σ.1 i j.toNatClampNeg y, σ.2)) hi (fun a ha => ⟨pm_ui_n ha, rfl⟩) ?_
          rw [pm_E_int hsh]
          exact congrArg (fun f => Sum.inl (cy 0, n, Sum.inl f)) pm_ui_s.symm
        rw [hset] at hP1 hD1
        exact K H1 locs1 lsA hl hP1 hD1 hS1
    · cases h
  · cases h
theorem pi_zas (hx : p.tables.exec = Jvm.exec) (hb : c.code = cc) (hK : va_K D vwCl (pm_T cy) s) (hN : ∀ i, N ≤ i → sh i = .inr (9, 0)) (hd : decode cc pc = .ok (.bastore, 1)) (h : pm_zas sh (pc + 1) ls st σ = some (.inl x)) (K : pm_G p l e R s m args below meth c Q D lay cy sh N nL A x) : pm_G p l e R s m args below meth c Q D lay cy sh N nL A (pc, ls, st, σ) := by
  intro H locs lsA hl hP hD hS
  unfold pm_zas at h
  split at h
  · rename_i y j i r
    split at h
    · rename_i n hsh
      split at h
      · cases h
      · rename_i hin
        split at h
        · rename_i hy
          cases h
          have hi : i < N := pm_lt hN (by rw [hsh]; simp)
          have hyn : vp_nar .boolean y = y := by rcases hy with rfl | rfl <;> rfl
          refine va_zast hx hb hK hP hD hS i 2 (pm_W_boo hi hsh) rfl hin hd (fun H1 locs1 hP1 hD1 hS1 => ?_)
          rw [hyn] at hP1 hD1
          have hset : (pm_W lay cy sh N σ).set i (lay i, .inl (cy 2, n, .inl (upd (σ.1 i) j.toNatClampNeg y))) = pm_W lay cy sh N (pm_ui σ.1 i j.toNatClampNeg y, σ.2) := by
            refine pm_W_set (σ := σ) (σ' := (pm_ui σ.1 i j.toNatClampNeg y, σ.2)) hi (fun a ha => ⟨pm_ui_n ha, rfl⟩) ?_
            rw [pm_E_boo hsh]
            exact congrArg (fun f => Sum.inl (cy 2, n, Sum.inl f)) pm_ui_s.symm
          rw [hset] at hP1 hD1
          exact K H1 locs1 lsA hl hP1 hD1 hS1
        · cases h
    · cases h
  · cases h
theorem pi_las (hx : p.tables.exec = Jvm.exec) (hb : c.code = cc) (hK : va_K D vwCl (pm_T cy) s) (hN : ∀ i, N ≤ i → sh i = .inr (9, 0)) (hd : decode cc pc = .ok (.lastore, 1)) (h : pm_las sh (pc + 1) ls st σ = some (.inl x)) (K : pm_G p l e R s m args below meth c Q D lay cy sh N nL A x) : pm_G p l e R s m args below meth c Q D lay cy sh N nL A (pc, ls, st, σ) := by
  intro H locs lsA hl hP hD hS
  unfold pm_las at h
  split at h
  · rename_i y j i r
    split at h
    · rename_i n hsh
      split at h
      · cases h
      · rename_i hin
        cases h
        have hi : i < N := pm_lt hN (by rw [hsh]; simp)
        refine va_last hx hb hK hP hD hS i 1 (pm_W_lng hi hsh) rfl hin hd (fun H1 locs1 hP1 hD1 hS1 => ?_)
        have hset : (pm_W lay cy sh N σ).set i (lay i, .inl (cy 1, n, .inr (.inl (vp_updL (σ.2 i) j.toNatClampNeg y)))) = pm_W lay cy sh N (σ.1, pm_uj σ.2 i j.toNatClampNeg y) := by
          refine pm_W_set (σ := σ) (σ' := (σ.1, pm_uj σ.2 i j.toNatClampNeg y)) hi (fun a ha => ⟨rfl, pm_uj_n ha⟩) ?_
          rw [pm_E_lng hsh]
          exact congrArg (fun f => Sum.inl (cy 1, n, Sum.inr (Sum.inl f))) pm_uj_s.symm
        rw [hset] at hP1 hD1
        exact K H1 locs1 lsA hl hP1 hD1 hS1
    · cases h
  · cases h
theorem pi_al (hx : p.tables.exec = Jvm.exec) (hb : c.code = cc) (hK : va_K D vwCl (pm_T cy) s) (hN : ∀ i, N ≤ i → sh i = .inr (9, 0)) (hd : decode cc pc = .ok (.arraylength, 1)) (h : pm_al sh (pc + 1) ls st σ = some (.inl x)) (K : pm_G p l e R s m args below meth c Q D lay cy sh N nL A x) : pm_G p l e R s m args below meth c Q D lay cy sh N nL A (pc, ls, st, σ) := by
  intro H locs lsA hl hP hD hS
  unfold pm_al at h
  split at h
  · rename_i i r
    split at h
    · rename_i n hsh
      cases h
      exact va_alen hx hb hK hP i 0 (pm_W_int (pm_lt hN (by rw [hsh]; simp)) hsh) rfl rfl hd (K H locs lsA hl hP hD hS)
    · rename_i n hsh
      cases h
      exact va_alen hx hb hK hP i 1 (pm_W_lng (pm_lt hN (by rw [hsh]; simp)) hsh) rfl rfl hd (K H locs lsA hl hP hD hS)
    · cases h
  · cases h
end PMH
end
section
/-! ===== contracts over the pure machine, and calls ===== -/
/-- the contract of a method: where the pure function answers, the method returns so, over any layout of the cells -/
def pm_Con (l : Launch) (y : MethodName) (ws : List Cond) (rm : Room) (sh : pSH) (N : Nat) (f : pFN) : Prop :=
  ∀ (D : va_G) (lay : Nat → Nat) (cy : Nat → ClassId) (sz : Nat) (σ : pST) (vs : List pSV) (σ' : pST) (r : Option pSV), f σ vs = some (σ', r) →
    Met l y ws rm (va_Pc (vs.map (pm_v lay)) (fun U => U.heap.size = sz ∧ va_P D vwCl (pm_W lay cy sh N σ) U.heap ∧ va_K D vwCl (pm_T cy) U ∧ va_D (fun _ => True) (pm_W lay cy sh N σ))) (pm_Q lay cy sh N D (va_A (pm_W lay cy sh N σ) sz) σ' r) 0 0 (va_A (pm_W lay cy sh N σ) sz)
/-- a call of an object's method, in a method with the words ws, the room rm, the class own -/
def pm_CalV (l : Launch) (ws : List Cond) (rm : Room) (own : String) (sh : pSH) (N idx a ci : Nat) (f : pFN) : Prop :=
  ∃ (y : MethodName) (ws1 ws1' : List Cond) (rm1 : Room) (bytes : ByteArray) (maxL : Nat) (ret : Option FieldType) (q : vw_C), pm_Con l y ws1 rm1 sh N f ∧ (∀ σ vs x, f σ vs = some x → ∃ i vs', vs = .inr (.inr i) :: vs' ∧ sh i = .inl ci) ∧ vwCl[ci]? = some q ∧ GoodIn ws (wsV own idx q.1 y ws1) ∧ ws1 = Cond.code y bytes maxL ret :: ws1' ∧ rm1.cells = 0 ∧ rm1.slots = 0 ∧ (y.cls = q.1 ∧ y.cls ≠ "java/lang/invoke/MethodHandle" ∧ y.cls ≠ "java/lang/invoke/VarHandle" ∧ (parseMethodDescriptor y.desc).map (fun d => d.parameters.length + 1) = some a) ∧ (rm1.frames + 1 ≤ rm.frames ∧ 8 + (maxL + 11) + rm1.locals ≤ rm.locals)
def pm_CalS (l : Launch) (ws : List Cond) (rm : Room) (own : String) (sh : pSH) (N idx a : Nat) (f : pFN) : Prop :=
  ∃ (y : MethodName) (ws1 ws1' : List Cond) (rm1 : Room) (bytes : ByteArray) (maxL : Nat) (ret : Option FieldType), pm_Con l y ws1 rm1 sh N f ∧ GoodIn ws (va_wsS own idx y ws1) ∧ ws1 = Cond.code y bytes maxL ret :: ws1' ∧ rm1.cells = 0 ∧ rm1.slots = 0 ∧ (y.cls ≠ "java/lang/invoke/MethodHandle" ∧ y.cls ≠ "java/lang/invoke/VarHandle" ∧ (parseMethodDescriptor y.desc).map (fun d => d.parameters.length) = some a) ∧ (rm1.frames + 1 ≤ rm.frames ∧ 8 + (maxL + 11) + rm1.locals ≤ rm.locals)
/-- System.arraycopy of rows of longs -/
def pm_cpy (sh : pSH) : pFN := fun σ vs => match vs with
  | [.inr (.inr a0), .inl sp, .inr (.inr a1), .inl dp, .inl n] => (match sh a0, sh a1 with
    | .inr (1, n0), .inr (1, n1) => if sp < 0 ∨ dp < 0 ∨ n < 0 ∨ n0 < sp.toNatClampNeg + n.toNatClampNeg ∨ n1 < dp.toNatClampNeg + n.toNatClampNeg then none else some ((σ.1, fun a => if a = a1 then va_cpy (σ.2 a0) (σ.2 a1) sp.toNatClampNeg dp.toNatClampNeg n.toNatClampNeg else σ.2 a), none)
    | _, _ => none)
  | _ => none
def pm_CalC (ws : List Cond) (rm : Room) (own : String) (sh : pSH) (idx a : Nat) (f : pFN) : Prop :=
  f = pm_cpy sh ∧ a = 5 ∧ Cond.methodLink own idx arraycopyName ∈ ws ∧ Cond.native arraycopyName ∈ ws ∧ Cond.static arraycopyName ∈ ws ∧ Cond.initialized "java/lang/System" ∈ ws ∧ 1 ≤ rm.frames ∧ 8 + (nativeFrameWords "java/lang/System" "arraycopy" 5 + 11) ≤ rm.locals
/-- Math.min of ints -/
def pm_min : pFN := fun σ vs => match vs with
  | [.inl x, .inl y] => some (σ, some (.inl (if y < x then y else x)))
  | _ => none
def pm_CalM (ws : List Cond) (rm : Room) (own : String) (idx a : Nat) (f : pFN) : Prop :=
  f = pm_min ∧ a = 2 ∧ Cond.methodLink own idx Lib.Math.min.name ∈ ws ∧ Cond.static Lib.Math.min.name ∈ ws ∧ Cond.initialized "java/lang/Math" ∈ ws ∧ Cond.code Lib.Math.min.name Lib.Math.min.code 2 (some .int) ∈ ws ∧ 1 ≤ rm.frames ∧ 21 ≤ rm.locals
def pm_Cal (l : Launch) (ws : List Cond) (rm : Room) (own : String) (sh : pSH) (N idx a : Nat) (rc : Option Nat) (f : pFN) : Prop := match rc with
  | some ci => pm_CalV l ws rm own sh N idx a ci f
  | none => pm_CalS l ws rm own sh N idx a f ∨ pm_CalC ws rm own sh idx a f ∨ pm_CalM ws rm own idx a f
theorem pm_free {A : Nat → Prop} {lay : Nat → Nat} {cy : Nat → ClassId} {sh : pSH} {N : Nat} {σ : pST} {H0 H : Heap} {locs : List Loc} (hD : va_D A (pm_W lay cy sh N σ)) (hS : va_S A H0 H locs) (hA : ∀ q, H0.size ≤ q → A q) : ∀ q, va_A (pm_W lay cy sh N σ) H.size q → A q := by
  intro q h
  rcases h with ⟨k, e, h⟩ | h
  · exact hD.2 k (q, e) h
  · exact hA q (Nat.le_trans hS.1 h)
section PMC
variable {p : Program} {l : Launch} {e : Env} {R : Room} {s : State} {m : MethodId} {args : Array Value} {below : List Frame} {meth : Method} {c : Code} {Q : State → Prop}
variable {D : va_G} {lay : Nat → Nat} {cy : Nat → ClassId} {sh : pSH} {N nL : Nat} {A : Nat → Prop} {cc : ByteArray} {pc : Nat} {ls : pLS} {st : List pSV} {σ : pST} {x : pNX}
variable {own : String} {Ts : List Cond}
theorem pm_goes {H : Heap} {locs : List Loc} {lsA : Array Slot} {st0 rest : List Value} {a : Array Value} {A1 : Nat → Prop} {free : Addr → Prop} {σ' : pST} {r : Option pSV} (hr : va_Run p l e R s m args below meth c H locs 0 0 0 0 (F0 m pc lsA st0) rest (pm_Q lay cy sh N D A1 σ' r a) free) (hS : va_S A s.heap H locs) (hA : ∀ q, q < H.size → A1 q → A q) (hf : ∀ q, free q → A q)
    (kk : ∀ (H1 : Heap) (locs1 : List Loc), va_P D vwCl (pm_W lay cy sh N σ') H1 → va_S A s.heap H1 locs1 → W p l e R s m args below meth c H1 locs1 0 0 Q (F0 m (pc + 3) lsA ((r.map (pm_v lay)).toList ++ rest))) : W p l e R s m args below meth c H locs 0 0 Q (F0 m pc lsA st0) := by
  intro T hT X
  obtain ⟨v, st₀, t, T', L, h0, X', hL, e1, e2, ⟨⟨hv, hp⟩, hz, hk⟩, st⟩ := hr T hT X
  cases hv
  rw [h0] at hz hk
  obtain ⟨t2, a1, b1⟩ := kk T'.heap (locs ++ L) (by rw [e1]; exact hp)
    ⟨Nat.le_trans hS.1 (by rw [e1]; exact hz), fun q h1 h2 => by rw [e1, hk q (Nat.lt_of_lt_of_le h1 hS.1) (fun z => h2 (hA q (Nat.lt_of_lt_of_le h1 hS.1) z))]; exact hS.2.1 q h1 h2, fun q hq => by
      rcases List.mem_append.mp hq with h | h
      · exact hS.2.2 q h
      · exact hf _ (hL q h)⟩ T' rfl X'
  exact ⟨t2, st t2 a1, b1⟩
theorem pm_blind {D : va_G} {lay : Nat → Nat} {cy : Nat → ClassId} {sh : pSH} {N sz : Nat} {σ : pST} {vs : List pSV} : FrameBlind (va_Pc (vs.map (pm_v lay)) (fun U => U.heap.size = sz ∧ va_P D vwCl (pm_W lay cy sh N σ) U.heap ∧ va_K D vwCl (pm_T cy) U ∧ va_D (fun _ => True) (pm_W lay cy sh N σ))) := fun a U g mk q => by
  obtain ⟨q0, q1, qP, qK, qD⟩ := q
  exact ⟨q0, q1, qP, va_K.moved (u := U) (U := U.calling g mk a) (Vm.Alike.refl U.vm) qK, qD⟩
theorem pm_weak {A : Nat → Prop} {ws : va_W} (hD : va_D A ws) : va_D (fun _ => True) ws := hD.weaken (fun _ _ _ _ => trivial)
theorem pm_sumw (lay : Nat → Nat) (st : List pSV) : ((st.map (pm_v lay)).map fun v => v.category).sum = pm_cs st := by
  unfold pm_cs
  rw [List.map_map]
  congr 2
  funext v
  exact pm_cat lay v
theorem pi_callV (hx : p.tables.exec = Jvm.exec) (hb : c.code = cc) (hml : c.maxLocals = nL) (hown : s.vm.findClass own = some m.cls) (hts : ∀ w ∈ Ts, w.before args s = true) (hK : va_K D vwCl (pm_T cy) s) (hN : ∀ i, N ≤ i → sh i = .inr (9, 0)) (hA : ∀ q, s.heap.size ≤ q → A q) {idx : Nat} {q : Option (Nat × (Option Nat × pFN))} (hC : ∀ a rc f, q = some (a, rc, f) → pm_Cal l Ts R own sh N idx a rc f) (hd : decode cc pc = .ok (.invokevirtual idx, 3)) (h : pm_call q false pc ls st σ = some (.inl x)) (K : pm_G p l e R s m args below meth c Q D lay cy sh N nL A x) : pm_G p l e R s m args below meth c Q D lay cy sh N nL A (pc, ls, st, σ) := by
  intro H locs lsA hl hP hD hS
  unfold pm_call at h
  split at h
  · rename_i a rc f
    split at h
    · rename_i hc
      obtain ⟨h1, h2, h3⟩ := hc
      split at h
      · rename_i σ' r hf
        cases h
        rcases rc with _ | ci
        · simp at h3
        · obtain ⟨y, ws1, ws1', rm1, bytes, maxL, ret, qc, hCon, hrecv, hcl, hG, hw, hrc, hrs, hd9, hR⟩ := hC a (some ci) f rfl
          obtain ⟨i, vs', hvs, hsh⟩ := hrecv _ _ _ hf
          have hM := hCon D lay cy H.size σ _ σ' r hf
          rw [hvs] at hM
          have hst : st = vs'.reverse ++ .inr (.inr i) :: st.drop a := by
            have e1 : st.take a = vs'.reverse ++ [.inr (.inr i)] := by
              have := congrArg List.reverse hvs
              rw [List.reverse_reverse, List.reverse_cons] at this
              exact this
            calc st = st.take a ++ st.drop a := (List.take_append_drop a st).symm
              _ = _ := by rw [e1, List.append_assoc]; rfl
          have hlen : vs'.length + 1 = a := by
            have := congrArg List.length hvs
            rw [List.length_reverse, List.length_take, List.length_cons] at this
            omega
          have hrow : (parseMethodDescriptor y.desc).map (fun d => d.parameters.length) = some vs'.length := by
            have h9 := hd9.2.2.2
            cases hp : parseMethodDescriptor y.desc with
            | none => rw [hp] at h9; cases h9
            | some d =>
              rw [hp] at h9
              simp only [Option.map_some, Option.some.injEq] at h9 ⊢
              omega
          have hstk : st.map (pm_v lay) = (vs'.map (pm_v lay)).reverse ++ .ref (lay i) :: (st.drop a).map (pm_v lay) := by
            have := congrArg (List.map (pm_v lay)) hst
            rw [List.map_append, List.map_reverse, List.map_cons] at this
            exact this
          have hrun := va_runV (p := p) (l := l) (e := e) (R := R) (s := s) (m := m) (args := args) (below := below) (meth := meth) (c := c) (H := H) (locs := locs) (cells := 0) (slots := 0) (g := F0 m pc lsA (st.map (pm_v lay))) (As := vs'.map (pm_v lay)) (rest := (st.drop a).map (pm_v lay)) (b := lay i) ⟨hx, hb, hml, hown, hts⟩ hM (cwV vs'.length hts hG hw hrc hrs ⟨hd9.1, hd9.2.1, hd9.2.2.1, hrow⟩ hR) ⟨pm_blind (vs := .inr (.inr i) :: vs'), va_recv hK hP hcl (pm_W_obj (pm_lt hN (by rw [hsh]; simp)) hsh), fun U hU hW => ⟨rfl, by rw [hU], by rw [hU]; exact hP, va_K.moved hW.alike hK, pm_weak hD⟩⟩ rfl (by simp) hl.1 hstk (lv_room (by rw [pm_sumw]; exact h2)) hd ⟨Nat.zero_le _, Nat.zero_le _⟩
          refine pm_goes (A := A) hrun hS (fun z _ hz => pm_free hD hS hA z hz) (fun z hz => pm_free hD hS hA z hz) (fun H1 locs1 hP1 hS1 => ?_)
          have K9 := K H1 locs1 lsA hl hP1 (pm_D σ' hD) hS1
          have e9 : (r.map (pm_v lay)).toList ++ (st.drop a).map (pm_v lay) = (r.toList ++ st.drop a).map (pm_v lay) := by
            cases r <;> simp
          rw [e9]
          exact K9
      · cases h
    · cases h
  · cases h
theorem pi_callS (hx : p.tables.exec = Jvm.exec) (hb : c.code = cc) (hml : c.maxLocals = nL) (hown : s.vm.findClass own = some m.cls) (hts : ∀ w ∈ Ts, w.before args s = true) (hK : va_K D vwCl (pm_T cy) s) (hN : ∀ i, N ≤ i → sh i = .inr (9, 0)) (hA : ∀ q, s.heap.size ≤ q → A q) {idx : Nat} {q : Option (Nat × (Option Nat × pFN))} (hC : ∀ a rc f, q = some (a, rc, f) → pm_Cal l Ts R own sh N idx a rc f) (hd : decode cc pc = .ok (.invokestatic idx, 3)) (h : pm_call q true pc ls st σ = some (.inl x)) (K : pm_G p l e R s m args below meth c Q D lay cy sh N nL A x) : pm_G p l e R s m args below meth c Q D lay cy sh N nL A (pc, ls, st, σ) := by
  intro H locs lsA hl hP hD hS
  unfold pm_call at h
  split at h
  · rename_i a rc f
    split at h
    · rename_i hc
      obtain ⟨h1, h2, h3⟩ := hc
      split at h
      · rename_i σ' r hf
        cases h
        rcases rc with _ | ci
        · rcases hC a none f rfl with ⟨y, ws1, ws1', rm1, bytes, maxL, ret, hCon, hG, hw, hrc, hrs, hd9, hR⟩ | ⟨rfl, rfl, hl1, hl2, hl3, hl4, hl5, hl6⟩ | ⟨rfl, rfl, hl1, hl2, hl3, hl4, hl5, hl6⟩
          · have hM := hCon D lay cy H.size σ _ σ' r hf
            have hstk : st.map (pm_v lay) = ((st.take a).reverse.map (pm_v lay)).reverse ++ (st.drop a).map (pm_v lay) := by
              rw [← List.map_reverse, List.reverse_reverse, ← List.map_append, List.take_append_drop]
            have hn : ((st.take a).reverse.map (pm_v lay)).length = a := by
              rw [List.length_map, List.length_reverse, List.length_take]
              omega
            have hrun := va_runS (p := p) (l := l) (e := e) (R := R) (s := s) (m := m) (args := args) (below := below) (meth := meth) (c := c) (H := H) (locs := locs) (cells := 0) (slots := 0) (g := F0 m pc lsA (st.map (pm_v lay))) (As := (st.take a).reverse.map (pm_v lay)) (rest := (st.drop a).map (pm_v lay)) ⟨hx, hb, hml, hown, hts⟩ hM (va_cwS a hts hG hw hrc hrs hd9 hR) ⟨pm_blind, fun U hU hW => ⟨rfl, by rw [hU], by rw [hU]; exact hP, va_K.moved hW.alike hK, pm_weak hD⟩⟩ rfl hn hl.1 hstk (lv_room (by rw [pm_sumw]; exact h2)) hd ⟨Nat.zero_le _, Nat.zero_le _⟩
            refine pm_goes (A := A) hrun hS (fun z _ hz => pm_free hD hS hA z hz) (fun z hz => pm_free hD hS hA z hz) (fun H1 locs1 hP1 hS1 => ?_)
            have K9 := K H1 locs1 lsA hl hP1 (pm_D σ' hD) hS1
            have e9 : (r.map (pm_v lay)).toList ++ (st.drop a).map (pm_v lay) = (r.toList ++ st.drop a).map (pm_v lay) := by
              cases r <;> simp
            rw [e9]
            exact K9
          · unfold pm_cpy at hf
            split at hf
            · rename_i a0 sp a1 dp n hvs
              split at hf
              · rename_i n0 n1 hs0 hs1
                split at hf
                · cases hf
                · rename_i hok
                  cases hf
                  have e1 : st.take 5 = [.inl n, .inl dp, .inr (.inr a1), .inl sp, .inr (.inr a0)] := by
                    have := congrArg List.reverse hvs
                    rw [List.reverse_reverse] at this
                    exact this
                  have hst : st = .inl n :: .inl dp :: .inr (.inr a1) :: .inl sp :: .inr (.inr a0) :: st.drop 5 := by
                    calc st = st.take 5 ++ st.drop 5 := (List.take_append_drop 5 st).symm
                      _ = _ := by rw [e1]; rfl
                  have hstk : st.map (pm_v lay) = .int n :: .int dp :: .ref (lay a1) :: .int sp :: .ref (lay a0) :: (st.drop 5).map (pm_v lay) := congrArg (List.map (pm_v lay)) hst
                  show W p l e R s m args below meth c H locs 0 0 Q (F0 m pc lsA (st.map (pm_v lay)))
                  rw [hstk]
                  have hi : a1 < N := pm_lt hN (by rw [hs1]; simp)
                  refine va_copyl hx hb (hml.trans hl.1.symm) hown (hts _ hl1) (hts _ hl2) (hts _ hl3) (hts _ hl4) hK hP hD hS a0 a1 1 1 (pm_W_lng (pm_lt hN (by rw [hs0]; simp)) hs0) (pm_W_lng hi hs1) rfl rfl rfl (fun z => hok (Or.inl z)) (fun z => hok (Or.inr (Or.inl z))) (fun z => hok (Or.inr (Or.inr (Or.inl z)))) (Nat.not_lt.mp fun z => hok (Or.inr (Or.inr (Or.inr (Or.inl z))))) (Nat.not_lt.mp fun z => hok (Or.inr (Or.inr (Or.inr (Or.inr z))))) (fun i _ => rfl) hl5 (by rw [pm_sumw]; omega) hd (fun H1 locs1 hP1 hD1 hS1 => ?_)
                  have hset : (pm_W lay cy sh N σ).set a1 (lay a1, .inl (cy 1, n1, .inr (.inl (va_cpy (σ.2 a0) (σ.2 a1) sp.toNatClampNeg dp.toNatClampNeg n.toNatClampNeg)))) = pm_W lay cy sh N (σ.1, fun a => if a = a1 then va_cpy (σ.2 a0) (σ.2 a1) sp.toNatClampNeg dp.toNatClampNeg n.toNatClampNeg else σ.2 a) := by
                    refine pm_W_set (σ := σ) (σ' := (σ.1, fun a => if a = a1 then va_cpy (σ.2 a0) (σ.2 a1) sp.toNatClampNeg dp.toNatClampNeg n.toNatClampNeg else σ.2 a)) hi (fun b hb9 => ⟨rfl, by simp [hb9]⟩) ?_
                    rw [pm_E_lng hs1]
                    simp
                  rw [hset] at hP1 hD1
                  exact K H1 locs1 lsA hl hP1 hD1 hS1
              · cases hf
            · cases hf
          · unfold pm_min at hf
            split at hf
            · rename_i z1 z2 hvs
              cases hf
              have e1 : st.take 2 = [.inl z2, .inl z1] := by
                have := congrArg List.reverse hvs
                rw [List.reverse_reverse] at this
                exact this
              have hst : st = .inl z2 :: .inl z1 :: st.drop 2 := by
                calc st = st.take 2 ++ st.drop 2 := (List.take_append_drop 2 st).symm
                  _ = _ := by rw [e1]; rfl
              have hstk : st.map (pm_v lay) = .int z2 :: .int z1 :: (st.drop 2).map (pm_v lay) := congrArg (List.map (pm_v lay)) hst
              show W p l e R s m args below meth c H locs 0 0 Q (F0 m pc lsA (st.map (pm_v lay)))
              rw [hstk]
              exact va_mmin hx hb (hml.trans hl.1.symm) hown (hts _ hl1) (hts _ hl2) (hts _ hl3) (hts _ hl4) hl5 (by rw [pm_sumw]; omega) (Nat.zero_le _) (Nat.zero_le _) hd (K H locs lsA hl hP hD hS)
            · cases hf
        · simp at h3
      · cases h
    · cases h
  · cases h
theorem pi_ret {free : Addr → Prop} {rt k : Nat} {σ' : pST} {r : Option pSV} {ins : Instr} (hx : p.tables.exec = Jvm.exec) (hb : c.code = cc) (hr : meth.sig.returnType = pm_rt rt) (hlocks : meth.locks = false) (hfr : ∀ q, A q → free q) (hk : (k = 0 ∧ ins = .return_) ∨ (k = 1 ∧ ins = .ireturn) ∨ (k = 2 ∧ ins = .lreturn)) (hd : decode cc pc = .ok (ins, 1)) (h : pm_ret rt k st σ = some (.inr (σ', r))) : pm_G p l e R s m args below meth c (MQ below (pm_Q lay cy sh N D A σ' r) args s 0 0 free) D lay cy sh N nL A (pc, ls, st, σ) := by
  intro H locs lsA hl hP hD hS
  unfold pm_ret at h
  split at h
  · cases h
    have e : ins = .return_ := by rcases hk with ⟨_, e⟩ | ⟨e, _⟩ | ⟨e, _⟩; exact e; cases e; cases e
    subst e
    exact W.vret hx hb hr (fun t ht hW => ⟨⟨rfl, by rw [ht]; exact hP⟩, hS.F ht⟩) (fun q hq => hfr _ (hS.2.2 q hq)) hd hlocks
  · cases h
    have e : ins = .ireturn := by rcases hk with ⟨e, _⟩ | ⟨_, e⟩ | ⟨e, _⟩; cases e; exact e; cases e
    subst e
    exact W.iret hx hb hr (fun t ht hW => ⟨⟨rfl, by rw [ht]; exact hP⟩, hS.F ht⟩) (fun q hq => hfr _ (hS.2.2 q hq)) hd hlocks
  · split at h
    · rename_i hy
      cases h
      have e : ins = .ireturn := by rcases hk with ⟨e, _⟩ | ⟨_, e⟩ | ⟨e, _⟩; cases e; exact e; cases e
      subst e
      exact W.zret hx hb hr (by rcases hy with rfl | rfl <;> rfl) (fun t ht hW => ⟨⟨rfl, by rw [ht]; exact hP⟩, hS.F ht⟩) (fun q hq => hfr _ (hS.2.2 q hq)) hd hlocks
    · cases h
  · cases h
    have e : ins = .lreturn := by rcases hk with ⟨e, _⟩ | ⟨e, _⟩ | ⟨_, e⟩; cases e; cases e; exact e
    subst e
    exact W.lret hx hb hr (fun t ht hW => ⟨⟨rfl, by rw [ht]; exact hP⟩, hS.F ht⟩) (fun q hq => hfr _ (hS.2.2 q hq)) hd hlocks
  · cases h
end PMC
end
section
/-! ===== the pure machine is sound ===== -/
def pm_tok (pc : Nat) (ins : Instr) (len : Nat) : Bool := (decide (pm_len ins = 0) || decide (len = pm_len ins)) && (match ins with
  | .ifCond _ off => decide (0 ≤ (pc : Int) + off)
  | .if_icmp _ off => decide (0 ≤ (pc : Int) + off)
  | _ => true)
def pm_Kok (Ts : List Cond) (own : String) (idx : Nat) (v : Int32 ⊕ Int64) : Prop := match v with
  | .inl x => Cond.constant own idx x ∈ Ts
  | .inr x => Cond.constantLong own idx x ∈ Ts
theorem pm_tok_len {pc len : Nat} {ins : Instr} (n : Nat) (hn : pm_len ins = n) (h0 : n ≠ 0) (h : pm_tok pc ins len = true) : len = n := by
  unfold pm_tok at h
  simp only [Bool.and_eq_true, Bool.or_eq_true, decide_eq_true_eq] at h
  rcases h.1 with q | q
  · omega
  · omega
theorem pm_tok_if {pc len : Nat} {cd : ClassFile.Cond} {off : Int} (h : pm_tok pc (.ifCond cd off) len = true) : (pc : Int) + off = ((((pc : Int) + off).toNat : Nat) : Int) := by
  unfold pm_tok at h
  simp only [Bool.and_eq_true, decide_eq_true_eq] at h
  exact pm_jt h.2
theorem pm_tok_ic {pc len : Nat} {cd : ClassFile.Cond} {off : Int} (h : pm_tok pc (.if_icmp cd off) len = true) : (pc : Int) + off = ((((pc : Int) + off).toNat : Nat) : Int) := by
  unfold pm_tok at h
  simp only [Bool.and_eq_true, decide_eq_true_eq] at h
  exact pm_jt h.2
theorem pm_ret_nl {rt k : Nat} {st : List pSV} {σ : pST} {x : pNX} (h : pm_ret rt k st σ = some (.inl x)) : False := by
  unfold pm_ret at h
  repeat' split at h
  all_goals cases h
section PMZ
variable {p : Program} {l : Launch} {e : Env} {R : Room} {s : State} {m : MethodId} {args : Array Value} {below : List Frame} {meth : Method} {c : Code} {Q : State → Prop}
variable {D : va_G} {lay : Nat → Nat} {cy : Nat → ClassId} {sh : pSH} {N nL rt : Nat} {A : Nat → Prop} {cc : ByteArray} {pc : Nat} {ls : pLS} {st : List pSV} {σ : pST} {x : pNX}
variable {own : String} {Ts : List Cond} {fld : Nat → Option (Nat × Nat)} {cst : Nat → Option (Int32 ⊕ Int64)} {cal : pCL} {tab : Nat → Option (Instr × Nat)}
set_option maxHeartbeats 4000000 in
theorem pm_step (hx : p.tables.exec = Jvm.exec) (hb : c.code = cc) (hml : c.maxLocals = nL) (hown : s.vm.findClass own = some m.cls) (hts : ∀ w ∈ Ts, w.before args s = true) (hK : va_K D vwCl (pm_T cy) s) (hN : ∀ i, N ≤ i → sh i = .inr (9, 0)) (hA : ∀ q, s.heap.size ≤ q → A q) (hfld : ∀ idx ci k, fld idx = some (ci, k) → pm_Fok Ts own idx ci k) (hcst : ∀ idx v, cst idx = some v → pm_Kok Ts own idx v) (hcal : ∀ idx a rc f, cal idx = some (a, rc, f) → pm_Cal l Ts R own sh N idx a rc f) {ins : Instr} {len : Nat} (hd : decode cc pc = .ok (ins, len)) (ht : pm_tok pc ins len = true) (h : pm_ins sh fld cst cal nL rt ins pc ls st σ = some (.inl x)) (K : pm_G p l e R s m args below meth c Q D lay cy sh N nL A x) : pm_G p l e R s m args below meth c Q D lay cy sh N nL A (pc, ls, st, σ) := by
  cases ins with
  | iconst n =>
    have e9 := pm_tok_len 1 rfl (by decide) ht; subst e9
    exact pi_iconst hx hb hd h K
  | bipush n =>
    have e9 := pm_tok_len 2 rfl (by decide) ht; subst e9
    exact pi_bipush hx hb hd h K
  | sipush n =>
    have e9 := pm_tok_len 3 rfl (by decide) ht; subst e9
    exact pi_sipush hx hb hd h K
  | lconst n =>
    have e9 := pm_tok_len 1 rfl (by decide) ht; subst e9
    exact pi_lconst hx hb hd h K
  | iload_n k =>
    have e9 := pm_tok_len 1 rfl (by decide) ht; subst e9
    exact pi_iload_n hx hb hd h K
  | iload k =>
    have e9 := pm_tok_len 2 rfl (by decide) ht; subst e9
    exact pi_iload hx hb hd h K
  | lload_n k =>
    have e9 := pm_tok_len 1 rfl (by decide) ht; subst e9
    exact pi_lload_n hx hb hd h K
  | lload k =>
    have e9 := pm_tok_len 2 rfl (by decide) ht; subst e9
    exact pi_lload hx hb hd h K
  | aload_n k =>
    have e9 := pm_tok_len 1 rfl (by decide) ht; subst e9
    exact pi_aload_n hx hb hd h K
  | aload k =>
    have e9 := pm_tok_len 2 rfl (by decide) ht; subst e9
    exact pi_aload hx hb hd h K
  | istore_n k =>
    have e9 := pm_tok_len 1 rfl (by decide) ht; subst e9
    exact pi_istore_n hx hb hd h K
  | istore k =>
    have e9 := pm_tok_len 2 rfl (by decide) ht; subst e9
    exact pi_istore hx hb hd h K
  | astore_n k =>
    have e9 := pm_tok_len 1 rfl (by decide) ht; subst e9
    exact pi_astore_n hx hb hd h K
  | astore k =>
    have e9 := pm_tok_len 2 rfl (by decide) ht; subst e9
    exact pi_astore hx hb hd h K
  | lstore k =>
    have e9 := pm_tok_len 2 rfl (by decide) ht; subst e9
    exact pi_lstore hx hb hd h K
  | iinc k n =>
    have e9 := pm_tok_len 3 rfl (by decide) ht; subst e9
    exact pi_iinc hx hb hd h K
  | iadd =>
    have e9 := pm_tok_len 1 rfl (by decide) ht; subst e9
    exact pi_iadd hx hb hd h K
  | isub =>
    have e9 := pm_tok_len 1 rfl (by decide) ht; subst e9
    exact pi_isub hx hb hd h K
  | imul =>
    have e9 := pm_tok_len 1 rfl (by decide) ht; subst e9
    exact pi_imul hx hb hd h K
  | iand =>
    have e9 := pm_tok_len 1 rfl (by decide) ht; subst e9
    exact pi_iand hx hb hd h K
  | ior =>
    have e9 := pm_tok_len 1 rfl (by decide) ht; subst e9
    exact pi_ior hx hb hd h K
  | ishl =>
    have e9 := pm_tok_len 1 rfl (by decide) ht; subst e9
    exact pi_ishl hx hb hd h K
  | iushr =>
    have e9 := pm_tok_len 1 rfl (by decide) ht; subst e9
    exact pi_iushr hx hb hd h K
  | irem =>
    have e9 := pm_tok_len 1 rfl (by decide) ht; subst e9
    exact pi_irem hx hb hd h K
  | ladd =>
    have e9 := pm_tok_len 1 rfl (by decide) ht; subst e9
    exact pi_ladd hx hb hd h K
  | lsub =>
    have e9 := pm_tok_len 1 rfl (by decide) ht; subst e9
    exact pi_lsub hx hb hd h K
  | lmul =>
    have e9 := pm_tok_len 1 rfl (by decide) ht; subst e9
    exact pi_lmul hx hb hd h K
  | land =>
    have e9 := pm_tok_len 1 rfl (by decide) ht; subst e9
    exact pi_land hx hb hd h K
  | lor =>
    have e9 := pm_tok_len 1 rfl (by decide) ht; subst e9
    exact pi_lor hx hb hd h K
  | lrem =>
    have e9 := pm_tok_len 1 rfl (by decide) ht; subst e9
    exact pi_lrem hx hb hd h K
  | lcmp =>
    have e9 := pm_tok_len 1 rfl (by decide) ht; subst e9
    exact pi_lcmp hx hb hd h K
  | lshl =>
    have e9 := pm_tok_len 1 rfl (by decide) ht; subst e9
    exact pi_lshl hx hb hd h K
  | i2l =>
    have e9 := pm_tok_len 1 rfl (by decide) ht; subst e9
    exact pi_i2l hx hb hd h K
  | l2i =>
    have e9 := pm_tok_len 1 rfl (by decide) ht; subst e9
    exact pi_l2i hx hb hd h K
  | dup =>
    have e9 := pm_tok_len 1 rfl (by decide) ht; subst e9
    exact pi_dup hx hb hd h K
  | dup2 =>
    have e9 := pm_tok_len 1 rfl (by decide) ht; subst e9
    exact pi_dup2 hx hb hd h K
  | pop =>
    have e9 := pm_tok_len 1 rfl (by decide) ht; subst e9
    exact pi_pop hx hb hd h K
  | goto off =>
    have e9 := pm_tok_len 3 rfl (by decide) ht; subst e9
    exact pi_goto hx hb hd h K
  | tableswitch a b d f =>
    skip
    exact pi_tsw hx hb hd h K
  | lookupswitch a b =>
    skip
    exact pi_lsw hx hb hd h K
  | ldc k =>
    have e9 := pm_tok_len 2 rfl (by decide) ht; subst e9
    exact pi_ldc hx hb hown (fun y hy => hts _ (hcst k _ hy)) hd h K
  | ldc_w k =>
    have e9 := pm_tok_len 3 rfl (by decide) ht; subst e9
    exact pi_ldcw hx hb hown (fun y hy => hts _ (hcst k _ hy)) hd h K
  | ldc2_w k =>
    have e9 := pm_tok_len 3 rfl (by decide) ht; subst e9
    exact pi_ldc2 hx hb hown (fun y hy => hts _ (hcst k _ hy)) hd h K
  | getfield k =>
    have e9 := pm_tok_len 3 rfl (by decide) ht; subst e9
    exact pi_get hx hb hown hts hK hN (fun ci k9 hq => hfld k ci k9 hq) hd h K
  | putfield k =>
    have e9 := pm_tok_len 3 rfl (by decide) ht; subst e9
    exact pi_put hx hb hown hts hK hN (fun ci k9 hq => hfld k ci k9 hq) hd h K
  | iaload =>
    have e9 := pm_tok_len 1 rfl (by decide) ht; subst e9
    exact pi_ial hx hb hK hN hd h K
  | baload =>
    have e9 := pm_tok_len 1 rfl (by decide) ht; subst e9
    exact pi_zal hx hb hK hN hd h K
  | laload =>
    have e9 := pm_tok_len 1 rfl (by decide) ht; subst e9
    exact pi_lal hx hb hK hN hd h K
  | aaload =>
    have e9 := pm_tok_len 1 rfl (by decide) ht; subst e9
    exact pi_aal hx hb hK hN hd h K
  | iastore =>
    have e9 := pm_tok_len 1 rfl (by decide) ht; subst e9
    exact pi_ias hx hb hK hN hd h K
  | bastore =>
    have e9 := pm_tok_len 1 rfl (by decide) ht; subst e9
    exact pi_zas hx hb hK hN hd h K
  | lastore =>
    have e9 := pm_tok_len 1 rfl (by decide) ht; subst e9
    exact pi_las hx hb hK hN hd h K
  | arraylength =>
    have e9 := pm_tok_len 1 rfl (by decide) ht; subst e9
    exact pi_al hx hb hK hN hd h K
  | invokevirtual k =>
    have e9 := pm_tok_len 3 rfl (by decide) ht; subst e9
    exact pi_callV hx hb hml hown hts hK hN hA (fun a rc f hq => hcal k a rc f hq) hd h K
  | invokestatic k =>
    have e9 := pm_tok_len 3 rfl (by decide) ht; subst e9
    exact pi_callS hx hb hml hown hts hK hN hA (fun a rc f hq => hcal k a rc f hq) hd h K
  | ireturn =>
    skip
    exact absurd h (fun h => pm_ret_nl h)
  | lreturn =>
    skip
    exact absurd h (fun h => pm_ret_nl h)
  | return_ =>
    skip
    exact absurd h (fun h => pm_ret_nl h)
  | ifCond cd off =>
    have e9 := pm_tok_len 3 rfl (by decide) ht; subst e9
    have HT := pm_tok_if ht
    cases cd with
    | eq => exact pi_if_eq hx hb HT hd h K
    | ne => exact pi_if_ne hx hb HT hd h K
    | lt => exact pi_if_lt hx hb HT hd h K
    | ge => exact pi_if_ge hx hb HT hd h K
    | gt => exact pi_if_gt hx hb HT hd h K
    | le => exact pi_if_le hx hb HT hd h K
  | if_icmp cd off =>
    have e9 := pm_tok_len 3 rfl (by decide) ht; subst e9
    have HT := pm_tok_ic ht
    cases cd with
    | eq => exact pi_ic_eq hx hb HT hd h K
    | ne => exact pi_ic_ne hx hb HT hd h K
    | lt => exact pi_ic_lt hx hb HT hd h K
    | ge => exact pi_ic_ge hx hb HT hd h K
    | gt => exact pi_ic_gt hx hb HT hd h K
    | le => exact pi_ic_le hx hb HT hd h K
  | _ => cases h
set_option maxHeartbeats 4000000 in
theorem pm_end {free : Addr → Prop} {σ' : pST} {r : Option pSV} (hx : p.tables.exec = Jvm.exec) (hb : c.code = cc) (hr : meth.sig.returnType = pm_rt rt) (hlocks : meth.locks = false) (hfr : ∀ q, A q → free q) {ins : Instr} {len : Nat} (hd : decode cc pc = .ok (ins, len)) (ht : pm_tok pc ins len = true) (h : pm_ins sh fld cst cal nL rt ins pc ls st σ = some (.inr (σ', r))) : pm_G p l e R s m args below meth c (MQ below (pm_Q lay cy sh N D A σ' r) args s 0 0 free) D lay cy sh N nL A (pc, ls, st, σ) := by
  cases ins with
  | ireturn =>
    have e9 := pm_tok_len 1 rfl (by decide) ht; subst e9
    exact pi_ret hx hb hr hlocks hfr (Or.inr (Or.inl ⟨rfl, rfl⟩)) hd h
  | lreturn =>
    have e9 := pm_tok_len 1 rfl (by decide) ht; subst e9
    exact pi_ret hx hb hr hlocks hfr (Or.inr (Or.inr ⟨rfl, rfl⟩)) hd h
  | return_ =>
    have e9 := pm_tok_len 1 rfl (by decide) ht; subst e9
    exact pi_ret hx hb hr hlocks hfr (Or.inl ⟨rfl, rfl⟩) hd h
  | ifCond cd off =>
    cases cd <;> (simp only [pm_ins, pm_if, pm_j, pm_go] at h; repeat' split at h) <;> cases h
  | if_icmp cd off =>
    cases cd <;> (simp only [pm_ins, pm_ic, pm_j, pm_go] at h; repeat' split at h) <;> cases h
  | _ => first
    | cases h
    | ((simp only [pm_ins, pm_go, pm_ldc, pm_ldc2, pm_ldi, pm_ldl, pm_lda, pm_sti, pm_sta, pm_stl, pm_inc, pm_ii, pm_ll, pm_irem, pm_lrem, pm_lcmp, pm_lsh, pm_i2l, pm_l2i, pm_dup, pm_dup2, pm_pop, pm_j, pm_tsw, pm_lsw, pm_gf, pm_pf, pm_ial, pm_zal, pm_lal, pm_aal, pm_ias, pm_zas, pm_las, pm_al, pm_call] at h); (repeat' split at h) <;> cases h)
theorem pm_sound (hx : p.tables.exec = Jvm.exec) (hb : c.code = cc) (hml : c.maxLocals = nL) (hown : s.vm.findClass own = some m.cls) (hts : ∀ w ∈ Ts, w.before args s = true) (hK : va_K D vwCl (pm_T cy) s) (hN : ∀ i, N ≤ i → sh i = .inr (9, 0)) (hA : ∀ q, s.heap.size ≤ q → A q) (hfld : ∀ idx ci k, fld idx = some (ci, k) → pm_Fok Ts own idx ci k) (hcst : ∀ idx v, cst idx = some v → pm_Kok Ts own idx v) (hcal : ∀ idx a rc f, cal idx = some (a, rc, f) → pm_Cal l Ts R own sh N idx a rc f) {free : Addr → Prop} (hr : meth.sig.returnType = pm_rt rt) (hlocks : meth.locks = false) (hfr : ∀ q, A q → free q) (htab : ∀ pc q, tab pc = some q → decode cc pc = .ok q ∧ pm_tok pc q.1 q.2 = true) {σ' : pST} {r : Option pSV} : ∀ (n pc : Nat) (ls : pLS) (st : List pSV) (σ : pST), pm_run sh tab fld cst cal nL rt n pc ls st σ = some (σ', r) → pm_G p l e R s m args below meth c (MQ below (pm_Q lay cy sh N D A σ' r) args s 0 0 free) D lay cy sh N nL A (pc, ls, st, σ) := by
  intro n
  induction n with
  | zero => intro pc ls st σ h; cases h
  | succ n ih =>
    intro pc ls st σ h
    unfold pm_run at h
    split at h
    · cases h
    · rename_i q hq
      obtain ⟨h1, h2⟩ := htab pc q hq
      split at h
      · rename_i pc' ls' st' σ9 hs
        exact pm_step hx hb hml hown hts hK hN hA hfld hcst hcal h1 h2 hs (ih pc' ls' st' σ9 h)
      · rename_i r9 hs
        cases h
        exact pm_end hx hb hr hlocks hfr h1 h2 hs
      · cases h
end PMZ
def pm_en : Nat → List pSV → pLS
  | _, [] => []
  | i, v :: vs => (i, v) :: pm_en (if pm_w v = 2 then i + 2 else i + 1) vs
theorem pm_en_L (lay : Nat → Nat) : ∀ (vs : List pSV) (i : Nat), lv_args i (vs.map (pm_v lay)) = pm_L lay (pm_en i vs)
  | [], _ => rfl
  | v :: vs, i => by
    simp only [List.map_cons, lv_args, pm_en, pm_L, pm_cat]
    rw [pm_en_L lay vs]
def pm_sz (vs : List pSV) : Nat := (vs.map pm_w).sum
theorem pm_sl_len (lay : Nat → Nat) : ∀ vs : List pSV, (lg_sl (vs.map (pm_v lay))).length = pm_sz vs
  | [] => rfl
  | v :: vs => by
    have ih := pm_sl_len lay vs
    unfold lg_sl at ih ⊢
    rw [List.map_cons, List.flatMap_cons, List.length_append, ih]
    unfold pm_sz
    rw [List.map_cons, List.sum_cons]
    congr 1
    rcases v with v | v | v <;> rfl
/-- a method as a pure function: its receiver is of the class rc (none: static) -/
def pm_fn (sh : pSH) (rc : Option Nat) (nL : Nat) (run : pLS → pST → Option pRT) : pFN := fun σ vs => if pm_sz vs ≤ nL then (match rc, vs with
  | none, vs => run (pm_en 0 vs) σ
  | some ci, .inr (.inr i) :: vs => if sh i = .inl ci then run (pm_en 0 (.inr (.inr i) :: vs)) σ else none
  | _, _ => none) else none
theorem pm_fn_run {sh : pSH} {rc : Option Nat} {nL : Nat} {run : pLS → pST → Option pRT} {σ : pST} {vs : List pSV} {x : pRT} (h : pm_fn sh rc nL run σ vs = some x) : pm_sz vs ≤ nL ∧ run (pm_en 0 vs) σ = some x := by
  unfold pm_fn at h
  split at h
  · rename_i hz
    refine ⟨hz, ?_⟩
    split at h
    · exact h
    · split at h
      · exact h
      · cases h
    · cases h
  · cases h
theorem pm_fn_recv {sh : pSH} {ci nL : Nat} {run : pLS → pST → Option pRT} {σ : pST} {vs : List pSV} {x : pRT} (h : pm_fn sh (some ci) nL run σ vs = some x) : ∃ i vs', vs = .inr (.inr i) :: vs' ∧ sh i = .inl ci := by
  unfold pm_fn at h
  split at h
  · rcases vs with _ | ⟨v, vs⟩
    · cases h
    · rcases v with v | v | i
      · cases h
      · cases h
      · simp only at h
        split at h
        · rename_i hs
          exact ⟨i, vs, rfl, hs⟩
        · cases h
  · cases h
/-- a method's contract out of its code -/
theorem pm_con {l : Launch} {y : MethodName} {ws ws' : List Cond} {rm : Room} {cc : ByteArray} {nL rt N : Nat} {sh : pSH} {rc : Option Nat} {tab : Nat → Option (Instr × Nat)} {fld : Nat → Option (Nat × Nat)} {cst : Nat → Option (Int32 ⊕ Int64)} {cal : pCL} (hy : plainName y.cls = true) (hw : ws = Cond.code y cc nL (pm_rt rt) :: ws') (hN : ∀ i, N ≤ i → sh i = .inr (9, 0)) (htab : ∀ pc q, tab pc = some q → decode cc pc = .ok q ∧ pm_tok pc q.1 q.2 = true) (hfld : ∀ idx ci k, fld idx = some (ci, k) → pm_Fok ws y.cls idx ci k) (hcst : ∀ idx v, cst idx = some v → pm_Kok ws y.cls idx v) (hcal : ∀ idx a rc f, cal idx = some (a, rc, f) → pm_Cal l ws rm y.cls sh N idx a rc f) (n : Nat) : pm_Con l y ws rm sh N (pm_fn sh rc nL (fun ls σ => pm_run sh tab fld cst cal nL rt n 0 ls [] σ)) := by
  intro D lay cy sz σ vs σ' r hf
  obtain ⟨hz, hrun⟩ := pm_fn_run hf
  refine Met.ofW (cc := cc) (maxL := nL) (ret := pm_rt rt) hy hw ?_
  intro p e s m args below meth c s₁ B hml hv
  obtain ⟨rfl, hsz, hP, hK, hD0⟩ := hv
  have hts := atoms_spec (ws := ws) B.pre
  have hown : s.vm.findClass y.cls = some m.cls := findClass_of_methodNamed B.named
  subst hsz
  have hD := hD0.self (sz := s.heap.size)
  have hl := lv_entry (vs.map (pm_v lay)) (n := nL) (by rw [pm_sl_len]; exact hz)
  rw [pm_en_L] at hl
  rw [lg_entry_eq]
  exact pm_sound (D := D) (lay := lay) (cy := cy) (A := va_A (pm_W lay cy sh N σ) s.heap.size) B.exec B.bytes hml hown hts hK hN (fun q hq => Or.inr hq) hfld hcst hcal B.returns B.notSynchronized (fun q hq => hq) htab n 0 (pm_en 0 vs) [] σ hrun s.heap [] _ hl hP hD va_S.rf
end
section
/-! ===== a method's pure function: what its code answers, with as many steps as it takes ===== -/
noncomputable def pm_any (f : Nat → Option pRT) : Option pRT := @dite _ (∃ n x, f n = some x) (Classical.propDecidable _) (fun h => f (Classical.choose h)) (fun _ => none)
theorem pm_any_ex {f : Nat → Option pRT} {x : pRT} (h : pm_any f = some x) : ∃ n, f n = some x := by
  unfold pm_any at h
  by_cases q : ∃ n x, f n = some x
  · rw [dif_pos q] at h
    exact ⟨_, h⟩
  · rw [dif_neg q] at h
    cases h
theorem pm_any_of {f : Nat → Option pRT} (hm : ∀ n x, f n = some x → f (n + 1) = some x) {n : Nat} {x : pRT} (h : f n = some x) : pm_any f = some x := by
  have up : ∀ k n x, f n = some x → f (n + k) = some x := by
    intro k
    induction k with
    | zero => intro n x h; exact h
    | succ k ih => intro n x h; exact hm _ _ (ih n x h)
  have q : ∃ n x, f n = some x := ⟨n, x, h⟩
  unfold pm_any
  rw [dif_pos q]
  obtain ⟨y, hy⟩ := Classical.choose_spec q
  have h1 := up n (Classical.choose q) y hy
  have h2 := up (Classical.choose q) n x h
  rw [Nat.add_comm] at h2
  rw [h1] at h2
  rw [hy]
  exact h2
theorem pm_run_mono {sh : pSH} {tab : Nat → Option (Instr × Nat)} {fld : Nat → Option (Nat × Nat)} {cst : Nat → Option (Int32 ⊕ Int64)} {cal : pCL} {nL rt : Nat} {x : pRT} : ∀ (n pc : Nat) (ls : pLS) (st : List pSV) (σ : pST), pm_run sh tab fld cst cal nL rt n pc ls st σ = some x → pm_run sh tab fld cst cal nL rt (n + 1) pc ls st σ = some x := by
  intro n
  induction n with
  | zero => intro pc ls st σ h; cases h
  | succ n ih =>
    intro pc ls st σ h
    unfold pm_run at h ⊢
    cases ht : tab pc with
    | none => rw [ht] at h; cases h
    | some q =>
      rw [ht] at h
      simp only at h ⊢
      cases hi : pm_ins sh fld cst cal nL rt q.1 pc ls st σ with
      | none => rw [hi] at h; cases h
      | some w =>
        rw [hi] at h
        rcases w with ⟨a, b, d, g⟩ | r
        · exact ih a b d g h
        · exact h
/-- tables as lists -/
def pm_tb (l : List (Nat × (Instr × Nat))) (pc : Nat) : Option (Instr × Nat) := (l.find? (fun q => q.1 == pc)).map (fun q => q.2)
def pm_fb (l : List (Nat × (Nat × Nat))) (idx : Nat) : Option (Nat × Nat) := (l.find? (fun q => q.1 == idx)).map (fun q => q.2)
def pm_kb (l : List (Nat × (Int32 ⊕ Int64))) (idx : Nat) : Option (Int32 ⊕ Int64) := (l.find? (fun q => q.1 == idx)).map (fun q => q.2)
def pm_lb (l : List (Nat × (Nat × (Option Nat × pFN)))) (idx : Nat) : Option (Nat × (Option Nat × pFN)) := (l.find? (fun q => q.1 == idx)).map (fun q => q.2)
theorem pm_find {α : Type} {l : List (Nat × α)} {i : Nat} {v : α} (h : (l.find? (fun q => q.1 == i)).map (fun q => q.2) = some v) : (i, v) ∈ l := by
  cases hf : l.find? (fun q => q.1 == i) with
  | none => rw [hf] at h; cases h
  | some q =>
    rw [hf] at h
    have h1 := List.mem_of_find?_eq_some hf
    have h2 := List.find?_some hf
    have h3 : q.1 = i := by simpa using h2
    have h4 : q.2 = v := by simpa using h
    rw [← h3, ← h4]
    exact h1
abbrev pm_code (sh : pSH) (t : List (Nat × (Instr × Nat))) (f : List (Nat × (Nat × Nat))) (k : List (Nat × (Int32 ⊕ Int64))) (cl : List (Nat × (Nat × (Option Nat × pFN)))) (nL rt : Nat) : Nat → Nat → pLS → List pSV → pST → Option pRT := pm_run sh (pm_tb t) (pm_fb f) (pm_kb k) (pm_lb cl) nL rt
noncomputable def pm_met (sh : pSH) (rc : Option Nat) (t : List (Nat × (Instr × Nat))) (f : List (Nat × (Nat × Nat))) (k : List (Nat × (Int32 ⊕ Int64))) (cl : List (Nat × (Nat × (Option Nat × pFN)))) (nL rt : Nat) : pFN := pm_fn sh rc nL (fun ls σ => pm_any (fun n => pm_code sh t f k cl nL rt n 0 ls [] σ))
theorem pm_met_con {l : Launch} {y : MethodName} {ws ws' : List Cond} {rm : Room} {cc : ByteArray} {nL rt N : Nat} {sh : pSH} {rc : Option Nat} {t : List (Nat × (Instr × Nat))} {f : List (Nat × (Nat × Nat))} {k : List (Nat × (Int32 ⊕ Int64))} {cl : List (Nat × (Nat × (Option Nat × pFN)))} (hy : plainName y.cls = true) (hw : ws = Cond.code y cc nL (pm_rt rt) :: ws') (hN : ∀ i, N ≤ i → sh i = .inr (9, 0)) (htab : ∀ q ∈ t, decode cc q.1 = .ok q.2 ∧ pm_tok q.1 q.2.1 q.2.2 = true) (hfld : ∀ q ∈ f, pm_Fok ws y.cls q.1 q.2.1 q.2.2) (hcst : ∀ q ∈ k, pm_Kok ws y.cls q.1 q.2) (hcal : ∀ q ∈ cl, pm_Cal l ws rm y.cls sh N q.1 q.2.1 q.2.2.1 q.2.2.2) : pm_Con l y ws rm sh N (pm_met sh rc t f k cl nL rt) := by
  intro D lay cy sz σ vs σ' r hf
  have hf0 := hf
  obtain ⟨hz, hrun⟩ := pm_fn_run hf
  obtain ⟨n, hn⟩ := pm_any_ex hrun
  refine pm_con (cc := cc) (nL := nL) (rt := rt) (rc := rc) (tab := pm_tb t) (fld := pm_fb f) (cst := pm_kb k) (cal := pm_lb cl) hy hw hN (fun pc q h => htab (pc, q) (pm_find h)) (fun idx ci j h => hfld (idx, ci, j) (pm_find h)) (fun idx v h => hcst (idx, v) (pm_find h)) (fun idx a rc f9 h => hcal (idx, a, rc, f9) (pm_find h)) n D lay cy sz σ vs σ' r ?_
  unfold pm_met pm_fn at hf0
  unfold pm_fn
  rw [if_pos hz] at hf0 ⊢
  split at hf0
  · exact hn
  · split at hf0
    · rename_i hs
      simp only
      rw [if_pos hs]
      exact hn
    · cases hf0
  · cases hf0
theorem pm_met_recv {sh : pSH} {ci : Nat} {t : List (Nat × (Instr × Nat))} {f : List (Nat × (Nat × Nat))} {k : List (Nat × (Int32 ⊕ Int64))} {cl : List (Nat × (Nat × (Option Nat × pFN)))} {nL rt : Nat} : ∀ (σ : pST) (vs : List pSV) (x : pRT), pm_met sh (some ci) t f k cl nL rt σ vs = some x → ∃ i vs', vs = .inr (.inr i) :: vs' ∧ sh i = .inl ci := fun _ _ _ h => pm_fn_recv h
/-- how a method's answer is shown: by a run -/
theorem pm_met_of {sh : pSH} {ci i : Nat} {t : List (Nat × (Instr × Nat))} {f : List (Nat × (Nat × Nat))} {k : List (Nat × (Int32 ⊕ Int64))} {cl : List (Nat × (Nat × (Option Nat × pFN)))} {nL rt : Nat} {σ : pST} {vs : List pSV} {x : pRT} (n : Nat) (hs : sh i = .inl ci) (hz : pm_sz (.inr (.inr i) :: vs) ≤ nL) (h : pm_code sh t f k cl nL rt n 0 (pm_en 0 (.inr (.inr i) :: vs)) [] σ = some x) : pm_met sh (some ci) t f k cl nL rt σ (.inr (.inr i) :: vs) = some x := by
  unfold pm_met pm_fn
  rw [if_pos hz]
  simp only
  rw [if_pos hs]
  exact pm_any_of (fun n x h => pm_run_mono n _ _ _ _ h) h
theorem pm_met_ofS {sh : pSH} {t : List (Nat × (Instr × Nat))} {f : List (Nat × (Nat × Nat))} {k : List (Nat × (Int32 ⊕ Int64))} {cl : List (Nat × (Nat × (Option Nat × pFN)))} {nL rt : Nat} {σ : pST} {vs : List pSV} {x : pRT} (n : Nat) (hz : pm_sz vs ≤ nL) (h : pm_code sh t f k cl nL rt n 0 (pm_en 0 vs) [] σ = some x) : pm_met sh none t f k cl nL rt σ vs = some x := by
  unfold pm_met pm_fn
  rw [if_pos hz]
  exact pm_any_of (fun n x h => pm_run_mono n _ _ _ _ h) h
/-! ===== the shapes: the cells of the class by their numbers (288), those of the reference (44) ===== -/
/-- a bench's cells from its own on: 135 -/
def pm_bn (j : Nat) : Nat ⊕ (Nat × Nat) := if j < 7 then (match j with
    | 0 => .inl 1
    | 1 => .inl 4
    | 2 => .inr (1, 32)
    | 3 => .inr (0, 512)
    | 4 => .inr (0, 512)
    | 5 => .inr (1, 512)
    | _ => .inr (3, 16))
  else (match (j - 7) % 8 with
    | 0 => .inl 0
    | 1 => .inr (1, 32)
    | 2 => .inr (1, 12)
    | 3 => .inr (1, 4)
    | 4 => .inr (1, 32)
    | _ => .inr (0, 12))
def shX (i : Nat) : Nat ⊕ (Nat × Nat) := if i < 9 then (match i with
    | 0 => .inl 6
    | 1 => .inr (1, 32)
    | 2 => .inl 2
    | 3 => .inr (0, 16)
    | 4 => .inr (0, 192)
    | 5 => .inr (0, 192)
    | 6 => .inr (0, 192)
    | 7 => .inr (1, 192)
    | _ => .inl 5)
  else if i < 144 then pm_bn (i - 9)
  else if i < 153 then (match i - 144 with
    | 0 => .inl 3
    | 1 => .inr (0, 200)
    | 2 => .inr (0, 200)
    | 3 => .inr (0, 16)
    | 4 => .inr (0, 16)
    | 5 => .inr (0, 16)
    | _ => .inr (0, 4))
  else if i < 288 then pm_bn (i - 153) else .inr (9, 0)
theorem shX_N : ∀ i, 288 ≤ i → shX i = .inr (9, 0) := fun i h => by
  unfold shX
  rw [if_neg (by omega), if_neg (by omega), if_neg (by omega), if_neg (by omega)]
def shM (i : Nat) : Nat ⊕ (Nat × Nat) := if i < 44 then ([.inl 7, .inr (1, 32), .inr (0, 16), .inr (0, 192), .inr (0, 192), .inr (0, 192), .inr (1, 192), .inr (0, 16), .inr (1, 64), .inr (2, 16), .inr (2, 512), .inr (1, 512), .inr (0, 16), .inr (0, 512), .inr (0, 512), .inr (0, 512), .inr (1, 512), .inr (0, 16), .inr (1, 192), .inr (0, 16), .inr (0, 16), .inr (2, 512), .inr (2, 512), .inr (1, 512), .inr (0, 512), .inr (0, 16), .inr (0, 16), .inr (0, 16), .inr (0, 4), .inr (0, 4), .inr (0, 4), .inr (0, 16), .inr (0, 200), .inr (0, 200), .inr (1, 192), .inr (0, 192), .inr (2, 16), .inr (0, 16), .inr (0, 16), .inr (0, 16), .inr (0, 16), .inr (1, 32), .inr (1, 32), .inr (1, 4)] : List (Nat ⊕ (Nat × Nat))).getD i (.inr (9, 0)) else .inr (9, 0)
theorem shM_N : ∀ i, 44 ≤ i → shM i = .inr (9, 0) := fun i h => by
  unfold shM
  rw [if_neg (by omega)]
end
section
def wsMin : List Cond := [Cond.code Lib.Math.min.name Lib.Math.min.code 2 (some .int)]
set_option maxRecDepth 20000 in
theorem ggX0_begin_J7_fill_d0a16 : GoodIn wsX0_begin wsJ7_fill_d0a16 := goodIn_r _ [13] rfl (by decide +kernel)
set_option maxRecDepth 20000 in
theorem gX0_begin_J7_fill_d0a16 : GoodIn wsX0_begin (va_wsS RX0 66 yJ7_fill_d0a16 wsJ7_fill_d0a16) := goodIn_app (goodIn_of _ (by decide +kernel)) ggX0_begin_J7_fill_d0a16
set_option maxRecDepth 20000 in
theorem ggX0_isOver_X2_hasAct : GoodIn wsX0_isOver wsX2_hasAct := goodIn_r _ [8, 9, 10, 29, 30, 31, 32, 33, 34] rfl (by decide +kernel)
set_option maxRecDepth 20000 in
theorem gX0_isOver_X2_hasAct : GoodIn wsX0_isOver (wsV RX0 72 RX2 yX2_hasAct wsX2_hasAct) := goodIn_app (goodIn_of _ (by decide +kernel)) ggX0_isOver_X2_hasAct
set_option maxRecDepth 20000 in
theorem ggX0_countWritten_J6_bitCount_0f7a4 : GoodIn wsX0_countWritten wsJ6_bitCount_0f7a4 := goodIn_r _ [5, 6, 7, 8] rfl (by decide +kernel)
set_option maxRecDepth 20000 in
theorem gX0_countWritten_J6_bitCount_0f7a4 : GoodIn wsX0_countWritten (va_wsS RX0 78 yJ6_bitCount_0f7a4 wsJ6_bitCount_0f7a4) := goodIn_app (goodIn_of _ (by decide +kernel)) ggX0_countWritten_J6_bitCount_0f7a4
set_option maxRecDepth 20000 in
theorem ggX0_doNext_X0_isOver : GoodIn wsX0_doNext wsX0_isOver := goodIn_r _ [13, 14, 1, 2, 15, 16, 17, 18, 19, 20, 21, 87, 88, 89, 90, 91, 92, 93, 94, 95, 96, 97, 98, 99, 100, 101, 102, 103, 104, 105, 106, 107, 108, 109, 110] rfl (by decide +kernel)
set_option maxRecDepth 20000 in
theorem gX0_doNext_X0_isOver : GoodIn wsX0_doNext (wsV RX0 84 RX0 yX0_isOver wsX0_isOver) := goodIn_app (goodIn_of _ (by decide +kernel)) ggX0_doNext_X0_isOver
set_option maxRecDepth 20000 in
theorem ggX0_doNext_X0_leafAt : GoodIn wsX0_doNext wsX0_leafAt := goodIn_r _ [25, 26, 27, 87, 88, 89, 90, 91, 92, 93, 94, 95, 96, 97, 98, 99, 100, 101, 102, 103, 104] rfl (by decide +kernel)
set_option maxRecDepth 20000 in
theorem gX0_doNext_X0_leafAt : GoodIn wsX0_doNext (wsV RX0 102 RX0 yX0_leafAt wsX0_leafAt) := goodIn_app (goodIn_of _ (by decide +kernel)) ggX0_doNext_X0_leafAt
set_option maxRecDepth 20000 in
theorem ggX0_doNext_X0_read : GoodIn wsX0_doNext wsX0_read := goodIn_r _ [31, 26, 32, 33, 1, 34, 35, 36, 37, 12, 38, 39, 40, 41, 42, 43, 44, 45, 46, 47, 48, 49, 50, 51, 52, 53, 54, 55, 56, 57, 58, 59, 60, 61, 62, 63, 64, 65, 66, 67, 68, 87, 88, 89, 90, 91, 92, 93, 94, 95, 96, 97, 98, 99, 100, 101, 102, 103, 104, 111, 112, 113, 114] rfl (by decide +kernel)
set_option maxRecDepth 20000 in
theorem gX0_doNext_X0_read : GoodIn wsX0_doNext (wsV RX0 106 RX0 yX0_read wsX0_read) := goodIn_app (goodIn_of _ (by decide +kernel)) ggX0_doNext_X0_read
set_option maxRecDepth 20000 in
theorem ggX0_doNext_X0_perform : GoodIn wsX0_doNext wsX0_perform := goodIn_r _ [72, 26, 2, 22, 23, 24, 12, 25, 27, 73, 74, 75, 76, 32, 39, 77, 78, 79, 80, 81, 82, 83, 84, 85, 86, 14, 87, 88, 89, 90, 91, 92, 93, 94, 95, 96, 97, 98, 99, 100, 101, 102, 103, 104] rfl (by decide +kernel)
set_option maxRecDepth 20000 in
theorem gX0_doNext_X0_perform : GoodIn wsX0_doNext (wsV RX0 110 RX0 yX0_perform wsX0_perform) := goodIn_app (goodIn_of _ (by decide +kernel)) ggX0_doNext_X0_perform
set_option maxRecDepth 20000 in
theorem ggX0_read_X0_hasWritten : GoodIn wsX0_read wsX0_hasWritten := goodIn_r _ [10, 11, 41, 42, 43, 44, 45, 46, 47, 48, 49, 50, 51, 52, 53, 54, 55, 56, 57, 58] rfl (by decide +kernel)
set_option maxRecDepth 20000 in
theorem gX0_read_X0_hasWritten : GoodIn wsX0_read (wsV RX0 116 RX0 yX0_hasWritten wsX0_hasWritten) := goodIn_app (goodIn_of _ (by decide +kernel)) ggX0_read_X0_hasWritten
set_option maxRecDepth 20000 in
theorem ggX0_read_X5_writerBelow : GoodIn wsX0_read wsX5_writerBelow := goodIn_r _ [16, 17, 59, 60, 61, 62] rfl (by decide +kernel)
set_option maxRecDepth 20000 in
theorem gX0_read_X5_writerBelow : GoodIn wsX0_read (wsV RX0 120 RX5 yX5_writerBelow wsX5_writerBelow) := goodIn_app (goodIn_of _ (by decide +kernel)) ggX0_read_X5_writerBelow
set_option maxRecDepth 20000 in
theorem ggX0_read_X5_isPerhaps : GoodIn wsX0_read wsX5_isPerhaps := goodIn_r _ [21, 17, 59, 60, 61, 62] rfl (by decide +kernel)
set_option maxRecDepth 20000 in
theorem gX0_read_X5_isPerhaps : GoodIn wsX0_read (wsV RX0 126 RX5 yX5_isPerhaps wsX5_isPerhaps) := goodIn_app (goodIn_of _ (by decide +kernel)) ggX0_read_X5_isPerhaps
set_option maxRecDepth 20000 in
theorem ggX0_read_X5_numberOf : GoodIn wsX0_read wsX5_numberOf := goodIn_r _ [25, 26, 59, 60, 61, 62] rfl (by decide +kernel)
set_option maxRecDepth 20000 in
theorem gX0_read_X5_numberOf : GoodIn wsX0_read (wsV RX0 129 RX5 yX5_numberOf wsX5_numberOf) := goodIn_app (goodIn_of _ (by decide +kernel)) ggX0_read_X5_numberOf
set_option maxRecDepth 20000 in
theorem ggX0_read_X5_valueOf : GoodIn wsX0_read wsX5_valueOf := goodIn_r _ [30, 31, 32, 59, 60, 61, 62] rfl (by decide +kernel)
set_option maxRecDepth 20000 in
theorem gX0_read_X5_valueOf : GoodIn wsX0_read (wsV RX0 132 RX5 yX5_valueOf wsX5_valueOf) := goodIn_app (goodIn_of _ (by decide +kernel)) ggX0_read_X5_valueOf
set_option maxRecDepth 20000 in
theorem ggX0_read_X0_keep : GoodIn wsX0_read wsX0_keep := goodIn_r _ [36, 37, 38, 39, 40, 5, 3, 41, 42, 43, 44, 45, 46, 47, 48, 49, 50, 51, 52, 53, 54, 55, 56, 57, 58] rfl (by decide +kernel)
set_option maxRecDepth 20000 in
theorem gX0_read_X0_keep : GoodIn wsX0_read (wsV RX0 136 RX0 yX0_keep wsX0_keep) := goodIn_app (goodIn_of _ (by decide +kernel)) ggX0_read_X0_keep
set_option maxRecDepth 20000 in
theorem ggX0_perform_X0_leafAt : GoodIn wsX0_perform wsX0_leafAt := goodIn_r _ [7, 1, 8, 26, 27, 28, 29, 30, 31, 32, 33, 34, 35, 36, 37, 38, 39, 40, 41, 42, 43] rfl (by decide +kernel)
set_option maxRecDepth 20000 in
theorem gX0_perform_X0_leafAt : GoodIn wsX0_perform (wsV RX0 102 RX0 yX0_leafAt wsX0_leafAt) := goodIn_app (goodIn_of _ (by decide +kernel)) ggX0_perform_X0_leafAt
set_option maxRecDepth 20000 in
theorem ggX0_perform_X0_write : GoodIn wsX0_perform wsX0_write := goodIn_r _ [12, 13, 14, 26, 27, 28, 29, 30, 31, 32, 33, 34, 35, 36, 37, 38, 39, 40, 41, 42, 43] rfl (by decide +kernel)
set_option maxRecDepth 20000 in
theorem gX0_perform_X0_write : GoodIn wsX0_perform (wsV RX0 139 RX0 yX0_write wsX0_write) := goodIn_app (goodIn_of _ (by decide +kernel)) ggX0_perform_X0_write
set_option maxRecDepth 20000 in
theorem ggX0_perform_X0_raise : GoodIn wsX0_perform wsX0_raise := goodIn_r _ [18, 19, 20, 26, 27, 28, 29, 30, 31, 32, 33, 34, 35, 36, 37, 38, 39, 40, 41, 42, 43] rfl (by decide +kernel)
set_option maxRecDepth 20000 in
theorem gX0_perform_X0_raise : GoodIn wsX0_perform (wsV RX0 143 RX0 yX0_raise wsX0_raise) := goodIn_app (goodIn_of _ (by decide +kernel)) ggX0_perform_X0_raise
set_option maxRecDepth 20000 in
theorem ggX0_perform_X0_fail : GoodIn wsX0_perform wsX0_fail := goodIn_r _ [24, 25, 14, 19, 26, 27, 28, 29, 30, 31, 32, 33, 34, 35, 36, 37, 38, 39, 40, 41, 42, 43] rfl (by decide +kernel)
set_option maxRecDepth 20000 in
theorem gX0_perform_X0_fail : GoodIn wsX0_perform (wsV RX0 147 RX0 yX0_fail wsX0_fail) := goodIn_app (goodIn_of _ (by decide +kernel)) ggX0_perform_X0_fail
set_option maxRecDepth 20000 in
theorem ggX0_firstChanged_X5_writerBelow : GoodIn wsX0_firstChanged wsX5_writerBelow := goodIn_r _ [10, 11, 39, 40, 41, 42] rfl (by decide +kernel)
set_option maxRecDepth 20000 in
theorem gX0_firstChanged_X5_writerBelow : GoodIn wsX0_firstChanged (wsV RX0 120 RX5 yX5_writerBelow wsX5_writerBelow) := goodIn_app (goodIn_of _ (by decide +kernel)) ggX0_firstChanged_X5_writerBelow
set_option maxRecDepth 20000 in
theorem ggX0_firstChanged_X5_isPerhaps : GoodIn wsX0_firstChanged wsX5_isPerhaps := goodIn_r _ [15, 11, 39, 40, 41, 42] rfl (by decide +kernel)
set_option maxRecDepth 20000 in
theorem gX0_firstChanged_X5_isPerhaps : GoodIn wsX0_firstChanged (wsV RX0 126 RX5 yX5_isPerhaps wsX5_isPerhaps) := goodIn_app (goodIn_of _ (by decide +kernel)) ggX0_firstChanged_X5_isPerhaps
set_option maxRecDepth 20000 in
theorem ggX0_firstChanged_X5_numberOf : GoodIn wsX0_firstChanged wsX5_numberOf := goodIn_r _ [19, 20, 39, 40, 41, 42] rfl (by decide +kernel)
set_option maxRecDepth 20000 in
theorem gX0_firstChanged_X5_numberOf : GoodIn wsX0_firstChanged (wsV RX0 129 RX5 yX5_numberOf wsX5_numberOf) := goodIn_app (goodIn_of _ (by decide +kernel)) ggX0_firstChanged_X5_numberOf
set_option maxRecDepth 20000 in
theorem ggX1_open_X5_open : GoodIn wsX1_open wsX5_open := goodIn_r _ [9, 10, 11, 12, 13, 14, 15, 16, 17, 18, 19, 36, 37, 38, 39] rfl (by decide +kernel)
set_option maxRecDepth 20000 in
theorem gX1_open_X5_open : GoodIn wsX1_open (wsV RX1 34 RX5 yX5_open wsX5_open) := goodIn_app (goodIn_of _ (by decide +kernel)) ggX1_open_X5_open
set_option maxRecDepth 20000 in
theorem ggX1_open_X0_open : GoodIn wsX1_open wsX0_open := goodIn_r _ [24, 25, 26, 40, 41, 42, 43, 44, 45, 46, 47, 48, 49, 50, 51, 52, 53, 54, 55, 56, 57] rfl (by decide +kernel)
set_option maxRecDepth 20000 in
theorem gX1_open_X0_open : GoodIn wsX1_open (wsV RX1 38 RX0 yX0_open wsX0_open) := goodIn_app (goodIn_of _ (by decide +kernel)) ggX1_open_X0_open
set_option maxRecDepth 20000 in
theorem ggX1_runOneByOne_X0_begin : GoodIn wsX1_runOneByOne wsX0_begin := goodIn_r _ [8, 9, 10, 11, 12, 13, 14, 15, 16, 17, 18, 19, 20, 21, 114, 115, 116, 117, 118, 119, 120, 121, 122, 123, 124, 125, 126, 127, 128, 129, 130, 131] rfl (by decide +kernel)
set_option maxRecDepth 20000 in
theorem gX1_runOneByOne_X0_begin : GoodIn wsX1_runOneByOne (wsV RX1 40 RX0 yX0_begin wsX0_begin) := goodIn_app (goodIn_of _ (by decide +kernel)) ggX1_runOneByOne_X0_begin
set_option maxRecDepth 20000 in
theorem ggX1_runOneByOne_X0_isOver : GoodIn wsX1_runOneByOne wsX0_isOver := goodIn_r _ [25, 12, 26, 10, 27, 28, 29, 30, 31, 32, 33, 114, 115, 116, 117, 118, 119, 120, 121, 122, 123, 124, 125, 126, 127, 128, 129, 130, 131, 132, 133, 134, 135, 136, 137] rfl (by decide +kernel)
set_option maxRecDepth 20000 in
theorem gX1_runOneByOne_X0_isOver : GoodIn wsX1_runOneByOne (wsV RX1 43 RX0 yX0_isOver wsX0_isOver) := goodIn_app (goodIn_of _ (by decide +kernel)) ggX1_runOneByOne_X0_isOver
set_option maxRecDepth 20000 in
theorem ggX1_runOneByOne_X0_doNext : GoodIn wsX1_runOneByOne wsX0_doNext := goodIn_r _ [37, 26, 10, 38, 39, 40, 41, 11, 42, 43, 23, 24, 7, 25, 12, 27, 28, 29, 30, 31, 32, 33, 44, 45, 46, 47, 17, 48, 49, 50, 51, 52, 53, 14, 54, 55, 56, 57, 58, 15, 59, 60, 61, 62, 63, 64, 65, 66, 67, 68, 69, 70, 71, 72, 73, 74, 75, 76, 77, 78, 79, 80, 81, 82, 83, 13, 84, 85, 86, 87, 88, 89, 90, 91, 92, 93, 94, 95, 96, 97, 98, 16, 99, 100, 101, 102, 103, 114, 115, 116, 117, 118, 119, 120, 121, 122, 123, 124, 125, 126, 127, 128, 129, 130, 131, 132, 133, 134, 135, 136, 137, 138, 139, 140, 141] rfl (by decide +kernel)
set_option maxRecDepth 20000 in
theorem gX1_runOneByOne_X0_doNext : GoodIn wsX1_runOneByOne (wsV RX1 47 RX0 yX0_doNext wsX0_doNext) := goodIn_app (goodIn_of _ (by decide +kernel)) ggX1_runOneByOne_X0_doNext
set_option maxRecDepth 20000 in
theorem ggX1_runOneByOne_X5_publish : GoodIn wsX1_runOneByOne wsX5_publish := goodIn_r _ [107, 108, 64, 73, 79, 109, 110, 56, 57, 7, 58, 15, 114, 115, 116, 117, 118, 119, 120, 121, 122, 123, 124, 125, 126, 127, 128, 129, 130, 131, 138, 139, 140, 141] rfl (by decide +kernel)
set_option maxRecDepth 20000 in
theorem gX1_runOneByOne_X5_publish : GoodIn wsX1_runOneByOne (wsV RX1 51 RX5 yX5_publish wsX5_publish) := goodIn_app (goodIn_of _ (by decide +kernel)) ggX1_runOneByOne_X5_publish
set_option maxRecDepth 20000 in
theorem ggX1_formGroups_X1_joinTouching : GoodIn wsX1_formGroups wsX1_joinTouching := goodIn_r _ [8, 1, 2, 3, 9, 10, 11, 12, 13, 14, 15, 16, 17, 18, 7, 19, 20, 21, 22, 23, 24, 25, 26, 27, 28, 29, 30, 31, 32, 33, 34, 35, 36, 37, 38, 39, 40, 41, 42, 43, 44] rfl (by decide +kernel)
set_option maxRecDepth 20000 in
theorem gX1_formGroups_X1_joinTouching : GoodIn wsX1_formGroups (wsV RX1 58 RX1 yX1_joinTouching wsX1_joinTouching) := goodIn_app (goodIn_of _ (by decide +kernel)) ggX1_formGroups_X1_joinTouching
set_option maxRecDepth 20000 in
theorem ggX1_joinTouching_X0_touched : GoodIn wsX1_joinTouching wsX0_touched := goodIn_r _ [8, 9, 10, 23, 24, 25, 26, 27, 28, 29, 30, 31, 32, 33, 34, 35, 36, 37, 38, 39, 40] rfl (by decide +kernel)
set_option maxRecDepth 20000 in
theorem gX1_joinTouching_X0_touched : GoodIn wsX1_joinTouching (wsV RX1 61 RX0 yX0_touched wsX0_touched) := goodIn_app (goodIn_of _ (by decide +kernel)) ggX1_joinTouching_X0_touched
set_option maxRecDepth 20000 in
theorem ggX1_joinTouching_X1_joinGroups : GoodIn wsX1_joinTouching wsX1_joinGroups := goodIn_r _ [15, 16, 17, 18, 19, 1, 2, 3, 20, 21, 22, 23, 24, 25, 26, 27, 28, 29, 30, 31, 32, 33, 34, 35, 36, 37, 38, 39, 40] rfl (by decide +kernel)
set_option maxRecDepth 20000 in
theorem gX1_joinTouching_X1_joinGroups : GoodIn wsX1_joinTouching (wsV RX1 65 RX1 yX1_joinGroups wsX1_joinGroups) := goodIn_app (goodIn_of _ (by decide +kernel)) ggX1_joinTouching_X1_joinGroups
set_option maxRecDepth 20000 in
theorem ggX1_tellCall_X0_countWritten : GoodIn wsX1_tellCall wsX0_countWritten := goodIn_r _ [12, 13, 14, 15, 16, 17, 18, 19, 20, 24, 25, 26, 27, 28, 29, 30, 31, 32, 33, 34, 35, 36, 37, 38, 39, 40, 41] rfl (by decide +kernel)
set_option maxRecDepth 20000 in
theorem gX1_tellCall_X0_countWritten : GoodIn wsX1_tellCall (wsV RX1 98 RX0 yX0_countWritten wsX0_countWritten) := goodIn_app (goodIn_of _ (by decide +kernel)) ggX1_tellCall_X0_countWritten
set_option maxRecDepth 20000 in
theorem ggX4_allows_X4_isRegister : GoodIn wsX4_allows wsX4_isRegister := goodIn_r _ [4] rfl (by decide +kernel)
set_option maxRecDepth 20000 in
theorem gX4_allows_X4_isRegister : GoodIn wsX4_allows (va_wsS RX4 11 yX4_isRegister wsX4_isRegister) := goodIn_app (goodIn_of _ (by decide +kernel)) ggX4_allows_X4_isRegister
set_option maxRecDepth 20000 in
theorem ggX4_allows_X4_hasSecond : GoodIn wsX4_allows wsX4_hasSecond := goodIn_r _ [7] rfl (by decide +kernel)
set_option maxRecDepth 20000 in
theorem gX4_allows_X4_hasSecond : GoodIn wsX4_allows (va_wsS RX4 15 yX4_hasSecond wsX4_hasSecond) := goodIn_app (goodIn_of _ (by decide +kernel)) ggX4_allows_X4_hasSecond
set_option maxRecDepth 20000 in
theorem ggX4_allows_X4_allowsValue : GoodIn wsX4_allows wsX4_allowsValue := goodIn_r _ [10, 11] rfl (by decide +kernel)
set_option maxRecDepth 20000 in
theorem gX4_allows_X4_allowsValue : GoodIn wsX4_allows (va_wsS RX4 18 yX4_allowsValue wsX4_allowsValue) := goodIn_app (goodIn_of _ (by decide +kernel)) ggX4_allows_X4_allowsValue
set_option maxRecDepth 20000 in
theorem ggX5_open_J7_fill_53178 : GoodIn wsX5_open wsJ7_fill_53178 := goodIn_r _ [10] rfl (by decide +kernel)
set_option maxRecDepth 20000 in
theorem gX5_open_J7_fill_53178 : GoodIn wsX5_open (va_wsS RX5 31 yJ7_fill_53178 wsJ7_fill_53178) := goodIn_app (goodIn_of _ (by decide +kernel)) ggX5_open_J7_fill_53178
set_option maxRecDepth 20000 in
theorem ggX5_valueAfter_X5_writerBelow : GoodIn wsX5_valueAfter wsX5_writerBelow := goodIn_r _ [5, 6, 13, 14, 15, 16] rfl (by decide +kernel)
set_option maxRecDepth 20000 in
theorem gX5_valueAfter_X5_writerBelow : GoodIn wsX5_valueAfter (wsV RX5 37 RX5 yX5_writerBelow wsX5_writerBelow) := goodIn_app (goodIn_of _ (by decide +kernel)) ggX5_valueAfter_X5_writerBelow
end
section
set_option maxRecDepth 20000 in
theorem ggX5_valueAfter_X5_valueOf : GoodIn wsX5_valueAfter wsX5_valueOf := goodIn_r _ [10, 11, 12, 13, 14, 15, 16] rfl (by decide +kernel)
set_option maxRecDepth 20000 in
theorem gX5_valueAfter_X5_valueOf : GoodIn wsX5_valueAfter (wsV RX5 41 RX5 yX5_valueOf wsX5_valueOf) := goodIn_app (goodIn_of _ (by decide +kernel)) ggX5_valueAfter_X5_valueOf
set_option maxRecDepth 20000 in
theorem ggX5_publish_X0_hasWritten : GoodIn wsX5_publish wsX0_hasWritten := goodIn_r _ [10, 11, 12, 13, 14, 15, 16, 17, 18, 19, 20, 21, 22, 23, 24, 25, 26, 27, 28, 29] rfl (by decide +kernel)
set_option maxRecDepth 20000 in
theorem gX5_publish_X0_hasWritten : GoodIn wsX5_publish (wsV RX5 51 RX0 yX0_hasWritten wsX0_hasWritten) := goodIn_app (goodIn_of _ (by decide +kernel)) ggX5_publish_X0_hasWritten
set_option maxRecDepth 20000 in
theorem ggX6_open_X1_open : GoodIn wsX6_open wsX1_open := goodIn_r _ [21, 22, 23, 24, 25, 26, 27, 28, 29, 30, 31, 32, 33, 34, 35, 36, 37, 38, 39, 40, 41, 42, 43, 44, 45, 46, 47, 69, 70, 71, 72, 73, 74, 75, 76, 77, 78, 79, 80, 81, 82, 83, 84, 85, 86, 87, 88, 89, 90, 91, 92, 93, 94, 95, 96, 97, 98, 99] rfl (by decide +kernel)
set_option maxRecDepth 20000 in
theorem gX6_open_X1_open : GoodIn wsX6_open (wsV RX6 44 RX1 yX1_open wsX1_open) := goodIn_app (goodIn_of _ (by decide +kernel)) ggX6_open_X1_open
set_option maxRecDepth 20000 in
theorem ggX6_open_J7_fill_53178 : GoodIn wsX6_open wsJ7_fill_53178 := goodIn_r _ [40] rfl (by decide +kernel)
set_option maxRecDepth 20000 in
theorem gX6_open_J7_fill_53178 : GoodIn wsX6_open (va_wsS RX6 80 yJ7_fill_53178 wsJ7_fill_53178) := goodIn_app (goodIn_of _ (by decide +kernel)) ggX6_open_J7_fill_53178
set_option maxRecDepth 20000 in
theorem ggX6_work_X6_isDone : GoodIn wsX6_work wsX6_isDone := goodIn_r _ [11, 12, 6, 13, 14, 3, 15, 226, 227, 228, 229, 230, 231, 232, 233, 234, 235, 236, 237, 238, 239, 240, 241, 242, 243, 244, 245] rfl (by decide +kernel)
set_option maxRecDepth 20000 in
theorem gX6_work_X6_isDone : GoodIn wsX6_work (wsV RX6 87 RX6 yX6_isDone wsX6_isDone) := goodIn_app (goodIn_of _ (by decide +kernel)) ggX6_work_X6_isDone
set_option maxRecDepth 20000 in
theorem ggX6_work_X6_step : GoodIn wsX6_work wsX6_step := goodIn_r _ [19, 15, 20, 21, 22, 10, 23, 24, 6, 25, 26, 27, 28, 29, 30, 31, 32, 33, 34, 35, 36, 37, 38, 39, 40, 41, 42, 43, 44, 45, 46, 47, 48, 49, 50, 51, 52, 53, 54, 55, 56, 57, 58, 59, 60, 61, 62, 63, 64, 65, 66, 67, 68, 69, 70, 71, 72, 73, 74, 75, 76, 77, 78, 79, 80, 81, 82, 83, 84, 85, 86, 87, 88, 89, 90, 91, 92, 93, 94, 95, 96, 97, 98, 99, 100, 101, 102, 103, 104, 105, 106, 107, 108, 109, 110, 111, 112, 113, 114, 115, 116, 117, 118, 119, 120, 121, 122, 123, 124, 125, 126, 127, 128, 129, 130, 131, 132, 133, 134, 135, 136, 137, 138, 14, 139, 140, 141, 142, 143, 144, 145, 146, 147, 148, 149, 13, 12, 150, 151, 152, 153, 154, 155, 156, 157, 158, 159, 160, 161, 162, 163, 4, 164, 165, 166, 167, 168, 169, 170, 171, 172, 173, 174, 175, 176, 177, 178, 179, 180, 181, 182, 183, 184, 185, 186, 187, 188, 189, 190, 191, 192, 193, 194, 195, 226, 227, 228, 229, 230, 231, 232, 233, 234, 235, 236, 237, 238, 239, 240, 241, 242, 243, 244, 245, 246, 247, 248, 249, 250, 251, 252, 253, 254, 255, 256, 257, 258, 259, 260, 261, 262, 263, 264, 265, 266, 267, 268, 269, 270, 271, 272, 273, 274, 275, 276] rfl (by decide +kernel)
set_option maxRecDepth 20000 in
theorem gX6_work_X6_step : GoodIn wsX6_work (wsV RX6 92 RX6 yX6_step wsX6_step) := goodIn_app (goodIn_of _ (by decide +kernel)) ggX6_work_X6_step
set_option maxRecDepth 20000 in
theorem ggX6_work_X1_runOneByOne : GoodIn wsX6_work wsX1_runOneByOne := goodIn_r _ [200, 201, 202, 203, 204, 184, 185, 30, 186, 187, 33, 38, 44, 95, 63, 69, 111, 56, 188, 189, 190, 191, 205, 41, 42, 43, 32, 45, 46, 47, 48, 49, 50, 51, 206, 28, 29, 31, 34, 35, 36, 37, 39, 40, 52, 53, 54, 55, 57, 58, 59, 60, 61, 62, 64, 65, 66, 67, 68, 70, 71, 72, 73, 74, 75, 76, 77, 78, 79, 80, 81, 82, 83, 84, 85, 86, 87, 88, 89, 90, 91, 92, 93, 94, 96, 97, 98, 99, 100, 101, 102, 103, 104, 105, 106, 107, 108, 109, 110, 112, 113, 114, 115, 116, 207, 140, 141, 142, 143, 144, 145, 243, 244, 245, 246, 247, 248, 249, 250, 251, 252, 253, 254, 255, 256, 257, 258, 259, 260, 261, 262, 263, 264, 265, 266, 267, 268, 269, 270, 271, 272, 273] rfl (by decide +kernel)
set_option maxRecDepth 20000 in
theorem gX6_work_X1_runOneByOne : GoodIn wsX6_work (wsV RX6 96 RX1 yX1_runOneByOne wsX1_runOneByOne) := goodIn_app (goodIn_of _ (by decide +kernel)) ggX6_work_X1_runOneByOne
set_option maxRecDepth 20000 in
theorem ggX6_work_X1_formGroups : GoodIn wsX6_work wsX1_formGroups := goodIn_r _ [211, 201, 202, 212, 213, 214, 215, 199, 216, 217, 218, 219, 30, 220, 63, 69, 221, 222, 223, 224, 225, 151, 152, 153, 243, 244, 245, 246, 247, 248, 249, 250, 251, 252, 253, 254, 255, 256, 257, 258, 259, 260, 261, 262, 263] rfl (by decide +kernel)
set_option maxRecDepth 20000 in
theorem gX6_work_X1_formGroups : GoodIn wsX6_work (wsV RX6 100 RX1 yX1_formGroups wsX1_formGroups) := goodIn_app (goodIn_of _ (by decide +kernel)) ggX6_work_X1_formGroups
set_option maxRecDepth 20000 in
theorem ggX6_step_X6_goOn : GoodIn wsX6_step wsX6_goOn := goodIn_r _ [6, 7, 8, 9, 10, 11, 12, 13, 14, 15, 16, 17, 18, 19, 20, 21, 22, 23, 24, 25, 26, 27, 28, 29, 30, 31, 32, 33, 34, 35, 36, 37, 38, 39, 40, 41, 42, 43, 44, 45, 46, 47, 48, 49, 50, 51, 52, 53, 54, 55, 56, 57, 58, 59, 60, 61, 62, 63, 64, 65, 66, 67, 68, 69, 70, 71, 72, 73, 74, 75, 76, 77, 78, 79, 80, 81, 82, 83, 84, 85, 86, 87, 88, 89, 90, 91, 92, 93, 94, 95, 96, 97, 98, 99, 100, 101, 102, 103, 5, 104, 1, 105, 106, 107, 108, 109, 110, 111, 112, 113, 114, 115, 116, 117, 118, 119, 120, 121, 122, 123, 124, 125, 126, 127, 128, 129, 130, 131, 132, 133, 134, 135, 136, 137, 138, 139, 140, 141, 142, 143, 144, 145, 184, 185, 186, 187, 188, 189, 190, 191, 192, 193, 194, 195, 196, 197, 198, 199, 200, 201, 202, 203, 204, 205, 206, 207, 208, 209, 210, 211, 212, 213, 214, 215, 216, 217, 218, 219, 220, 221, 222, 223, 224, 225, 226, 227, 228, 229, 230, 231, 232, 233, 234] rfl (by decide +kernel)
set_option maxRecDepth 20000 in
theorem gX6_step_X6_goOn : GoodIn wsX6_step (wsV RX6 106 RX6 yX6_goOn wsX6_goOn) := goodIn_app (goodIn_of _ (by decide +kernel)) ggX6_step_X6_goOn
set_option maxRecDepth 20000 in
theorem ggX6_step_X6_look : GoodIn wsX6_step wsX6_look := goodIn_r _ [149, 7, 1, 150, 105, 122, 145, 8, 9, 10, 108, 151, 136, 152, 153, 154, 14, 155, 79, 80, 16, 81, 82, 54, 55, 56, 57, 58, 59, 60, 61, 62, 63, 64, 65, 66, 67, 68, 156, 109, 110, 111, 112, 113, 114, 115, 116, 157, 158, 159, 5, 160, 161, 123, 137, 138, 139, 140, 162, 163, 164, 165, 166, 167, 168, 169, 170, 171, 172, 173, 174, 175, 17, 22, 28, 47, 53, 95, 40, 176, 177, 178, 179, 184, 185, 186, 187, 188, 189, 190, 191, 192, 193, 194, 195, 196, 197, 198, 199, 200, 201, 202, 203, 204, 205, 206, 207, 208, 209, 210, 211, 212, 213, 214, 215, 216, 217, 218, 219, 220, 221, 228, 229, 230, 231, 232, 233, 234] rfl (by decide +kernel)
set_option maxRecDepth 20000 in
theorem gX6_step_X6_look : GoodIn wsX6_step (wsV RX6 109 RX6 yX6_look wsX6_look) := goodIn_app (goodIn_of _ (by decide +kernel)) ggX6_step_X6_look
set_option maxRecDepth 20000 in
theorem ggX6_step_X6_takeTask : GoodIn wsX6_step wsX6_takeTask := goodIn_r _ [183, 123, 136, 105, 8, 135, 141, 142, 143, 5, 144, 1, 7, 145, 122, 167, 168, 169, 170, 9, 171, 172, 173, 14, 174, 175, 17, 22, 28, 79, 47, 53, 95, 40, 176, 177, 178, 179, 184, 185, 186, 187, 188, 189, 190, 191, 192, 193, 194, 195, 196, 197, 198, 199, 200, 201, 202, 203, 204, 205, 206, 207, 208, 209, 210, 211, 212, 213, 214, 215, 216, 217, 218, 219, 220, 221] rfl (by decide +kernel)
set_option maxRecDepth 20000 in
theorem gX6_step_X6_takeTask : GoodIn wsX6_step (wsV RX6 113 RX6 yX6_takeTask wsX6_takeTask) := goodIn_app (goodIn_of _ (by decide +kernel)) ggX6_step_X6_takeTask
set_option maxRecDepth 20000 in
theorem ggX6_takeTask_X6_giveLook : GoodIn wsX6_takeTask wsX6_giveLook := goodIn_r _ [10, 11, 12, 13, 14, 38, 39, 40, 41, 42, 43, 44, 45, 46, 47, 48, 49, 50, 51, 52, 53, 54] rfl (by decide +kernel)
set_option maxRecDepth 20000 in
theorem gX6_takeTask_X6_giveLook : GoodIn wsX6_takeTask (wsV RX6 116 RX6 yX6_giveLook wsX6_giveLook) := goodIn_app (goodIn_of _ (by decide +kernel)) ggX6_takeTask_X6_giveLook
set_option maxRecDepth 20000 in
theorem ggX6_takeTask_X6_giveRun : GoodIn wsX6_takeTask wsX6_giveRun := goodIn_r _ [18, 11, 12, 3, 4, 19, 20, 21, 22, 23, 24, 25, 26, 27, 28, 29, 30, 31, 32, 33, 34, 35, 36, 37, 38, 39, 40, 41, 42, 43, 44, 45, 46, 47, 48, 49, 50, 51, 52, 53, 54, 55, 56, 57, 58, 59, 60, 61, 62, 63, 64, 65, 66, 67, 68, 69, 70, 71, 72, 73, 74, 75] rfl (by decide +kernel)
set_option maxRecDepth 20000 in
theorem gX6_takeTask_X6_giveRun : GoodIn wsX6_takeTask (wsV RX6 120 RX6 yX6_giveRun wsX6_giveRun) := goodIn_app (goodIn_of _ (by decide +kernel)) ggX6_takeTask_X6_giveRun
set_option maxRecDepth 20000 in
theorem ggX6_giveRun_X0_begin : GoodIn wsX6_giveRun wsX0_begin := goodIn_r _ [10, 11, 12, 13, 14, 15, 16, 17, 18, 19, 20, 21, 22, 23, 44, 45, 46, 47, 48, 49, 50, 51, 52, 53, 54, 55, 56, 57, 58, 59, 60, 61] rfl (by decide +kernel)
set_option maxRecDepth 20000 in
theorem gX6_giveRun_X0_begin : GoodIn wsX6_giveRun (wsV RX6 127 RX0 yX0_begin wsX0_begin) := goodIn_app (goodIn_of _ (by decide +kernel)) ggX6_giveRun_X0_begin
set_option maxRecDepth 20000 in
theorem ggX6_goOn_X0_doNext : GoodIn wsX6_goOn wsX0_doNext := goodIn_r _ [9, 10, 11, 12, 13, 14, 15, 16, 17, 18, 19, 20, 8, 21, 22, 23, 24, 25, 26, 27, 28, 29, 30, 31, 32, 33, 34, 35, 36, 37, 38, 39, 40, 41, 42, 43, 44, 45, 46, 47, 48, 49, 50, 51, 52, 53, 54, 55, 56, 57, 58, 59, 60, 61, 62, 63, 64, 65, 66, 67, 68, 69, 70, 71, 72, 73, 74, 75, 76, 77, 78, 79, 80, 81, 82, 83, 84, 85, 86, 87, 88, 89, 90, 91, 92, 93, 94, 162, 163, 164, 165, 166, 167, 168, 169, 170, 171, 172, 173, 174, 175, 176, 177, 178, 179, 180, 181, 182, 183, 184, 185, 186, 187, 188, 189] rfl (by decide +kernel)
set_option maxRecDepth 20000 in
theorem gX6_goOn_X0_doNext : GoodIn wsX6_goOn (wsV RX6 136 RX0 yX0_doNext wsX0_doNext) := goodIn_app (goodIn_of _ (by decide +kernel)) ggX6_goOn_X0_doNext
set_option maxRecDepth 20000 in
theorem ggX6_goOn_X6_giveUp : GoodIn wsX6_goOn wsX6_giveUp := goodIn_r _ [99, 100, 101, 102, 103, 104, 105, 106, 107, 108, 109, 110, 111, 112, 142, 143, 144, 145, 146, 147, 148, 149, 150, 151, 152, 153, 154, 155, 156, 157, 158, 190, 191, 192] rfl (by decide +kernel)
set_option maxRecDepth 20000 in
theorem gX6_goOn_X6_giveUp : GoodIn wsX6_goOn (wsV RX6 140 RX6 yX6_giveUp wsX6_giveUp) := goodIn_app (goodIn_of _ (by decide +kernel)) ggX6_goOn_X6_giveUp
set_option maxRecDepth 20000 in
theorem ggX6_goOn_X0_isOver : GoodIn wsX6_goOn wsX0_isOver := goodIn_r _ [21, 22, 10, 11, 23, 24, 25, 26, 27, 28, 29, 162, 163, 164, 165, 166, 167, 168, 169, 170, 171, 172, 173, 174, 175, 176, 177, 178, 179, 180, 181, 182, 183, 184, 185] rfl (by decide +kernel)
set_option maxRecDepth 20000 in
theorem gX6_goOn_X0_isOver : GoodIn wsX6_goOn (wsV RX6 144 RX0 yX0_isOver wsX0_isOver) := goodIn_app (goodIn_of _ (by decide +kernel)) ggX6_goOn_X0_isOver
set_option maxRecDepth 20000 in
theorem ggX6_goOn_X6_end : GoodIn wsX6_goOn wsX6_end := goodIn_r _ [117, 100, 2, 4, 3, 118, 101, 119, 120, 121, 122, 51, 123, 124, 53, 62, 68, 125, 126, 44, 45, 8, 46, 47, 127, 128, 129, 98, 130, 131, 102, 132, 133, 134, 135, 136, 137, 138, 139, 140, 1, 141, 142, 143, 144, 145, 146, 147, 148, 149, 150, 151, 152, 153, 154, 155, 156, 157, 158, 159, 160, 161, 162, 163, 164, 165, 166, 167, 168, 169, 170, 171, 172, 173, 174, 175, 176, 177, 178, 179, 186, 187, 188, 189] rfl (by decide +kernel)
set_option maxRecDepth 20000 in
theorem gX6_goOn_X6_end : GoodIn wsX6_goOn (wsV RX6 148 RX6 yX6_end wsX6_end) := goodIn_app (goodIn_of _ (by decide +kernel)) ggX6_goOn_X6_end
set_option maxRecDepth 20000 in
theorem ggX6_giveUp_X3_note : GoodIn wsX6_giveUp wsX3_note := goodIn_r _ [10, 11, 12, 13, 31, 32, 33] rfl (by decide +kernel)
set_option maxRecDepth 20000 in
theorem gX6_giveUp_X3_note : GoodIn wsX6_giveUp (wsV RX6 151 RX3 yX3_note wsX3_note) := goodIn_app (goodIn_of _ (by decide +kernel)) ggX6_giveUp_X3_note
set_option maxRecDepth 20000 in
theorem ggX6_end_X5_publish : GoodIn wsX6_end wsX5_publish := goodIn_r _ [12, 13, 14, 15, 16, 17, 18, 19, 20, 21, 22, 23, 62, 63, 64, 65, 66, 67, 68, 69, 70, 71, 72, 73, 74, 75, 76, 77, 78, 79, 80, 81, 82, 83] rfl (by decide +kernel)
set_option maxRecDepth 20000 in
theorem gX6_end_X5_publish : GoodIn wsX6_end (wsV RX6 154 RX5 yX5_publish wsX5_publish) := goodIn_app (goodIn_of _ (by decide +kernel)) ggX6_end_X5_publish
set_option maxRecDepth 20000 in
theorem ggX6_end_X6_wakeThoseWaitingFor : GoodIn wsX6_end wsX6_wakeThoseWaitingFor := goodIn_r _ [28, 2, 29, 6, 30, 31, 32, 33, 34, 35, 42, 43, 44, 45, 46, 47, 48, 49, 50, 51, 52, 53, 54, 55, 56, 57, 58, 59, 60, 61] rfl (by decide +kernel)
set_option maxRecDepth 20000 in
theorem gX6_end_X6_wakeThoseWaitingFor : GoodIn wsX6_end (wsV RX6 160 RX6 yX6_wakeThoseWaitingFor wsX6_wakeThoseWaitingFor) := goodIn_app (goodIn_of _ (by decide +kernel)) ggX6_end_X6_wakeThoseWaitingFor
set_option maxRecDepth 20000 in
theorem ggX6_end_X6_giveLook : GoodIn wsX6_end wsX6_giveLook := goodIn_r _ [39, 1, 40, 41, 5, 42, 43, 44, 45, 46, 47, 48, 49, 50, 51, 52, 53, 54, 55, 56, 57, 58] rfl (by decide +kernel)
set_option maxRecDepth 20000 in
theorem gX6_end_X6_giveLook : GoodIn wsX6_end (wsV RX6 116 RX6 yX6_giveLook wsX6_giveLook) := goodIn_app (goodIn_of _ (by decide +kernel)) ggX6_end_X6_giveLook
set_option maxRecDepth 20000 in
theorem ggX6_look_X0_firstChanged : GoodIn wsX6_look wsX0_firstChanged := goodIn_r _ [17, 18, 19, 20, 21, 22, 23, 24, 25, 26, 27, 28, 29, 30, 31, 32, 33, 34, 35, 36, 37, 103, 104, 105, 106, 107, 108, 109, 110, 111, 112, 113, 114, 115, 116, 117, 118, 119, 120, 121, 122, 123, 124] rfl (by decide +kernel)
set_option maxRecDepth 20000 in
theorem gX6_look_X0_firstChanged : GoodIn wsX6_look (wsV RX6 169 RX0 yX0_firstChanged wsX0_firstChanged) := goodIn_app (goodIn_of _ (by decide +kernel)) ggX6_look_X0_firstChanged
set_option maxRecDepth 20000 in
theorem ggX6_look_X5_writerBelow : GoodIn wsX6_look wsX5_writerBelow := goodIn_r _ [27, 28, 121, 122, 123, 124] rfl (by decide +kernel)
set_option maxRecDepth 20000 in
theorem gX6_look_X5_writerBelow : GoodIn wsX6_look (wsV RX6 173 RX5 yX5_writerBelow wsX5_writerBelow) := goodIn_app (goodIn_of _ (by decide +kernel)) ggX6_look_X5_writerBelow
set_option maxRecDepth 20000 in
theorem ggX6_look_X3_note : GoodIn wsX6_look wsX3_note := goodIn_r _ [43, 44, 45, 46, 125, 126, 127] rfl (by decide +kernel)
set_option maxRecDepth 20000 in
theorem gX6_look_X3_note : GoodIn wsX6_look (wsV RX6 151 RX3 yX3_note wsX3_note) := goodIn_app (goodIn_of _ (by decide +kernel)) ggX6_look_X3_note
set_option maxRecDepth 20000 in
theorem ggX6_look_X6_undo : GoodIn wsX6_look wsX6_undo := goodIn_r _ [51, 52, 7, 9, 5, 4, 53, 54, 55, 56, 57, 58, 11, 59, 60, 61, 26, 62, 28, 83, 84, 85, 86, 87, 88, 89, 90, 91, 92, 93, 94, 95, 96, 97, 98, 99, 100, 101, 102, 121, 122, 123, 124] rfl (by decide +kernel)
set_option maxRecDepth 20000 in
theorem gX6_look_X6_undo : GoodIn wsX6_look (wsV RX6 176 RX6 yX6_undo wsX6_undo) := goodIn_app (goodIn_of _ (by decide +kernel)) ggX6_look_X6_undo
set_option maxRecDepth 20000 in
theorem ggX6_look_X6_giveRun : GoodIn wsX6_look wsX6_giveRun := goodIn_r _ [66, 2, 1, 4, 7, 8, 67, 68, 69, 16, 70, 71, 72, 73, 74, 18, 75, 76, 77, 78, 79, 80, 81, 82, 83, 84, 85, 86, 87, 88, 89, 90, 91, 92, 93, 94, 95, 96, 97, 98, 99, 100, 101, 102, 103, 104, 105, 106, 107, 108, 109, 110, 111, 112, 113, 114, 115, 116, 117, 118, 119, 120] rfl (by decide +kernel)
set_option maxRecDepth 20000 in
theorem gX6_look_X6_giveRun : GoodIn wsX6_look (wsV RX6 120 RX6 yX6_giveRun wsX6_giveRun) := goodIn_app (goodIn_of _ (by decide +kernel)) ggX6_look_X6_giveRun
set_option maxRecDepth 20000 in
theorem ggX6_undo_X5_doubt : GoodIn wsX6_undo wsX5_doubt := goodIn_r _ [17, 18, 39, 40, 41, 42] rfl (by decide +kernel)
set_option maxRecDepth 20000 in
theorem gX6_undo_X5_doubt : GoodIn wsX6_undo (wsV RX6 179 RX5 yX5_doubt wsX5_doubt) := goodIn_app (goodIn_of _ (by decide +kernel)) ggX6_undo_X5_doubt
set_option maxRecDepth 20000 in
theorem ggX6_tell_X1_countActs : GoodIn wsX6_tell wsX1_countActs := goodIn_r _ [12, 13, 14, 15, 38, 39, 40, 41, 42, 43, 44, 45, 46, 47, 48, 49, 50, 51, 52, 53, 54, 55, 56, 57, 58] rfl (by decide +kernel)
set_option maxRecDepth 20000 in
theorem gX6_tell_X1_countActs : GoodIn wsX6_tell (wsV RX6 182 RX1 yX1_countActs wsX1_countActs) := goodIn_app (goodIn_of _ (by decide +kernel)) ggX6_tell_X1_countActs
set_option maxRecDepth 20000 in
theorem ggX6_tell_X1_countGroups : GoodIn wsX6_tell wsX1_countGroups := goodIn_r _ [19, 13, 14, 20, 38, 39, 40, 41, 42, 43, 44, 45, 46, 47, 48, 49, 50, 51, 52, 53, 54, 55, 56, 57, 58] rfl (by decide +kernel)
set_option maxRecDepth 20000 in
theorem gX6_tell_X1_countGroups : GoodIn wsX6_tell (wsV RX6 186 RX1 yX1_countGroups wsX1_countGroups) := goodIn_app (goodIn_of _ (by decide +kernel)) ggX6_tell_X1_countGroups
set_option maxRecDepth 20000 in
theorem ggX7_call_X2_addCall : GoodIn wsX7_call wsX2_addCall := goodIn_r _ [6, 7, 8, 14, 15, 16, 17, 18, 19] rfl (by decide +kernel)
set_option maxRecDepth 20000 in
theorem gX7_call_X2_addCall : GoodIn wsX7_call (wsV RX7 38 RX2 yX2_addCall wsX2_addCall) := goodIn_app (goodIn_of _ (by decide +kernel)) ggX7_call_X2_addCall
set_option maxRecDepth 20000 in
theorem ggX7_act_X4_allows : GoodIn wsX7_act wsX4_allows := goodIn_r _ [5, 6, 7, 4, 8, 9, 10, 11, 12, 13, 14, 15] rfl (by decide +kernel)
set_option maxRecDepth 20000 in
theorem gX7_act_X4_allows : GoodIn wsX7_act (va_wsS RX7 42 yX4_allows wsX4_allows) := goodIn_app (goodIn_of _ (by decide +kernel)) ggX7_act_X4_allows
set_option maxRecDepth 20000 in
theorem ggX7_act_X2_addAct : GoodIn wsX7_act wsX2_addAct := goodIn_r _ [20, 21, 22, 23, 24, 25, 26, 32, 33, 34, 35, 36, 37] rfl (by decide +kernel)
set_option maxRecDepth 20000 in
theorem gX7_act_X2_addAct : GoodIn wsX7_act (wsV RX7 48 RX2 yX2_addAct wsX2_addAct) := goodIn_app (goodIn_of _ (by decide +kernel)) ggX7_act_X2_addAct
set_option maxRecDepth 20000 in
theorem ggX7_clear_X2_dropCalls : GoodIn wsX7_clear wsX2_dropCalls := goodIn_r _ [6, 7, 13, 14, 15, 16, 17, 18] rfl (by decide +kernel)
set_option maxRecDepth 20000 in
theorem gX7_clear_X2_dropCalls : GoodIn wsX7_clear (wsV RX7 52 RX2 yX2_dropCalls wsX2_dropCalls) := goodIn_app (goodIn_of _ (by decide +kernel)) ggX7_clear_X2_dropCalls
set_option maxRecDepth 20000 in
theorem ggX7_leaf_X7_isLeaf : GoodIn wsX7_leaf wsX7_isLeaf := goodIn_r _ [5] rfl (by decide +kernel)
set_option maxRecDepth 20000 in
theorem gX7_leaf_X7_isLeaf : GoodIn wsX7_leaf (va_wsS RX7 55 yX7_isLeaf wsX7_isLeaf) := goodIn_app (goodIn_of _ (by decide +kernel)) ggX7_leaf_X7_isLeaf
end
section
set_option maxRecDepth 20000 in
theorem ggX7_run_X6_open : GoodIn wsX7_run wsX6_open := goodIn_r _ [12, 13, 14, 15, 16, 17, 18, 19, 20, 21, 22, 23, 24, 25, 26, 27, 28, 29, 30, 31, 32, 33, 34, 35, 36, 37, 38, 39, 40, 41, 42, 43, 44, 45, 46, 47, 48, 49, 50, 51, 52, 53, 54, 55, 56, 57, 58, 59, 60, 274, 275, 276, 277, 278, 279, 280, 281, 282, 283, 284, 285, 286, 287, 288, 289, 290, 294, 295, 296, 297, 298, 299, 300, 301, 302, 291, 292, 293, 303, 304, 305, 306, 307, 308, 309, 310, 311, 312, 313, 314, 315, 316, 317, 318, 319, 320, 321, 322, 323, 324] rfl (by decide +kernel)
set_option maxRecDepth 20000 in
theorem gX7_run_X6_open : GoodIn wsX7_run (wsV RX7 59 RX6 yX6_open wsX6_open) := goodIn_app (goodIn_of _ (by decide +kernel)) ggX7_run_X6_open
set_option maxRecDepth 20000 in
theorem ggX7_run_X6_work : GoodIn wsX7_run wsX6_work := goodIn_r _ [64, 16, 65, 21, 20, 66, 13, 67, 68, 69, 11, 70, 23, 71, 24, 28, 72, 73, 74, 75, 76, 77, 78, 79, 80, 81, 82, 83, 84, 85, 56, 86, 87, 88, 89, 90, 91, 92, 93, 59, 94, 95, 96, 97, 98, 99, 100, 101, 102, 103, 104, 105, 106, 107, 108, 109, 110, 111, 112, 113, 114, 115, 116, 117, 118, 119, 120, 121, 122, 123, 124, 125, 126, 41, 127, 48, 128, 129, 130, 131, 132, 133, 134, 135, 136, 137, 138, 139, 140, 43, 141, 142, 143, 144, 145, 146, 147, 148, 149, 150, 151, 152, 153, 154, 155, 156, 157, 158, 159, 160, 161, 162, 163, 164, 165, 166, 167, 168, 169, 170, 171, 25, 26, 19, 14, 172, 173, 174, 175, 176, 177, 178, 179, 180, 181, 182, 183, 184, 27, 185, 186, 187, 188, 189, 190, 191, 192, 193, 194, 195, 196, 197, 198, 199, 200, 201, 202, 203, 204, 205, 206, 207, 208, 17, 209, 210, 211, 212, 213, 214, 215, 216, 217, 18, 22, 218, 219, 220, 221, 222, 223, 224, 225, 226, 227, 228, 229, 58, 230, 231, 51, 232, 233, 234, 235, 236, 237, 238, 239, 32, 240, 35, 37, 36, 241, 242, 243, 244, 245, 246, 247, 248, 249, 250, 251, 252, 253, 254, 255, 256, 257, 258, 259, 260, 261, 262, 274, 275, 276, 277, 278, 279, 280, 281, 282, 283, 284, 285, 286, 287, 288, 289, 290, 291, 292, 293, 307, 308, 309, 310, 311, 312, 313, 314, 315, 316, 317, 318, 319, 320, 321, 322, 323, 324, 297, 298, 299, 300, 301, 302, 303, 304, 305, 306, 294, 295, 296] rfl (by decide +kernel)
set_option maxRecDepth 20000 in
theorem gX7_run_X6_work : GoodIn wsX7_run (wsV RX7 63 RX6 yX6_work wsX6_work) := goodIn_app (goodIn_of _ (by decide +kernel)) ggX7_run_X6_work
set_option maxRecDepth 20000 in
theorem ggX7_run_X5_valueAfter : GoodIn wsX7_run wsX5_valueAfter := goodIn_r _ [266, 267, 125, 126, 41, 127, 48, 268, 138, 139, 140, 43, 141, 303, 304, 305, 306] rfl (by decide +kernel)
set_option maxRecDepth 20000 in
theorem gX7_run_X5_valueAfter : GoodIn wsX7_run (wsV RX7 74 RX5 yX5_valueAfter wsX5_valueAfter) := goodIn_app (goodIn_of _ (by decide +kernel)) ggX7_run_X5_valueAfter
set_option maxRecDepth 20000 in
theorem ggX7_at_X7_isLeaf : GoodIn wsX7_at wsX7_isLeaf := goodIn_r _ [5] rfl (by decide +kernel)
set_option maxRecDepth 20000 in
theorem gX7_at_X7_isLeaf : GoodIn wsX7_at (va_wsS RX7 55 yX7_isLeaf wsX7_isLeaf) := goodIn_app (goodIn_of _ (by decide +kernel)) ggX7_at_X7_isLeaf
set_option maxRecDepth 20000 in
theorem ggX7_inOrder_X7_isLeaf : GoodIn wsX7_inOrder wsX7_isLeaf := goodIn_r _ [8] rfl (by decide +kernel)
set_option maxRecDepth 20000 in
theorem gX7_inOrder_X7_isLeaf : GoodIn wsX7_inOrder (va_wsS RX7 55 yX7_isLeaf wsX7_isLeaf) := goodIn_app (goodIn_of _ (by decide +kernel)) ggX7_inOrder_X7_isLeaf
set_option maxRecDepth 20000 in
theorem ggX7_inOrder_X1_open : GoodIn wsX7_inOrder wsX1_open := goodIn_r _ [13, 14, 15, 16, 17, 18, 19, 20, 21, 22, 23, 24, 25, 26, 27, 28, 29, 30, 31, 32, 33, 34, 35, 36, 37, 38, 39, 158, 159, 160, 161, 162, 163, 155, 156, 157, 164, 165, 166, 167, 168, 169, 170, 171, 172, 173, 174, 175, 176, 177, 178, 179, 180, 181, 182, 183, 184, 185] rfl (by decide +kernel)
set_option maxRecDepth 20000 in
theorem gX7_inOrder_X1_open : GoodIn wsX7_inOrder (wsV RX7 83 RX1 yX1_open wsX1_open) := goodIn_app (goodIn_of _ (by decide +kernel)) ggX7_inOrder_X1_open
set_option maxRecDepth 20000 in
theorem ggX7_inOrder_X1_runOneByOne : GoodIn wsX7_inOrder wsX1_runOneByOne := goodIn_r _ [43, 15, 17, 16, 44, 45, 46, 36, 47, 38, 48, 49, 50, 51, 52, 53, 54, 55, 56, 57, 31, 58, 59, 60, 61, 62, 63, 64, 65, 66, 67, 68, 69, 70, 71, 72, 73, 74, 75, 76, 77, 78, 39, 79, 80, 81, 82, 83, 84, 85, 86, 87, 88, 89, 90, 91, 92, 93, 94, 95, 96, 97, 21, 98, 28, 99, 100, 101, 102, 103, 104, 105, 106, 107, 108, 109, 110, 111, 23, 112, 113, 114, 115, 116, 117, 118, 119, 120, 121, 122, 123, 124, 125, 126, 127, 128, 129, 130, 131, 132, 133, 134, 135, 136, 137, 138, 139, 140, 141, 142, 143, 155, 156, 157, 168, 169, 170, 171, 172, 173, 174, 175, 176, 177, 178, 179, 180, 181, 182, 183, 184, 185, 158, 159, 160, 161, 162, 163, 164, 165, 166, 167] rfl (by decide +kernel)
set_option maxRecDepth 20000 in
theorem gX7_inOrder_X1_runOneByOne : GoodIn wsX7_inOrder (wsV RX7 86 RX1 yX1_runOneByOne wsX1_runOneByOne) := goodIn_app (goodIn_of _ (by decide +kernel)) ggX7_inOrder_X1_runOneByOne
set_option maxRecDepth 20000 in
theorem ggX7_inOrder_X5_valueAfter : GoodIn wsX7_inOrder wsX5_valueAfter := goodIn_r _ [147, 148, 96, 97, 21, 98, 28, 149, 109, 110, 111, 23, 112, 164, 165, 166, 167] rfl (by decide +kernel)
set_option maxRecDepth 20000 in
theorem gX7_inOrder_X5_valueAfter : GoodIn wsX7_inOrder (wsV RX7 74 RX5 yX5_valueAfter wsX5_valueAfter) := goodIn_app (goodIn_of _ (by decide +kernel)) ggX7_inOrder_X5_valueAfter
set_option maxRecDepth 20000 in
theorem ggX7_events_X1_countEvents : GoodIn wsX7_events wsX1_countEvents := goodIn_r _ [7, 8, 9, 10, 33, 34, 35, 36, 37, 38, 39, 40, 41, 42, 43, 44, 45, 46, 47, 48, 49, 50, 51, 52, 53] rfl (by decide +kernel)
set_option maxRecDepth 20000 in
theorem gX7_events_X1_countEvents : GoodIn wsX7_events (wsV RX7 90 RX1 yX1_countEvents wsX1_countEvents) := goodIn_app (goodIn_of _ (by decide +kernel)) ggX7_events_X1_countEvents
set_option maxRecDepth 20000 in
theorem ggX7_event_X1_tellEvent : GoodIn wsX7_event wsX1_tellEvent := goodIn_r _ [7, 8, 9, 10, 11, 34, 35, 36, 37, 38, 39, 40, 41, 42, 43, 44, 45, 46, 47, 48, 49, 50, 51, 52, 53, 54] rfl (by decide +kernel)
set_option maxRecDepth 20000 in
theorem gX7_event_X1_tellEvent : GoodIn wsX7_event (wsV RX7 93 RX1 yX1_tellEvent wsX1_tellEvent) := goodIn_app (goodIn_of _ (by decide +kernel)) ggX7_event_X1_tellEvent
set_option maxRecDepth 20000 in
theorem ggX7_of_X1_tellCall : GoodIn wsX7_of wsX1_tellCall := goodIn_r _ [7, 8, 9, 10, 11, 12, 13, 14, 15, 16, 17, 18, 19, 20, 21, 22, 23, 24, 25, 26, 27, 50, 51, 52, 53, 54, 55, 56, 57, 58, 59, 60, 61, 62, 63, 64, 65, 66, 67, 68, 69, 70] rfl (by decide +kernel)
set_option maxRecDepth 20000 in
theorem gX7_of_X1_tellCall : GoodIn wsX7_of (wsV RX7 97 RX1 yX1_tellCall wsX1_tellCall) := goodIn_app (goodIn_of _ (by decide +kernel)) ggX7_of_X1_tellCall
set_option maxRecDepth 20000 in
theorem ggX7_conflict_X3_tell : GoodIn wsX7_conflict wsX3_tell := goodIn_r _ [7, 8, 9, 10, 33, 34, 35] rfl (by decide +kernel)
set_option maxRecDepth 20000 in
theorem gX7_conflict_X3_tell : GoodIn wsX7_conflict (wsV RX7 110 RX3 yX3_tell wsX3_tell) := goodIn_app (goodIn_of _ (by decide +kernel)) ggX7_conflict_X3_tell
set_option maxRecDepth 20000 in
theorem ggX7_told_X6_tell : GoodIn wsX7_told wsX6_tell := goodIn_r _ [6, 7, 8, 9, 10, 11, 12, 13, 14, 15, 16, 17, 18, 19, 20, 21, 22, 23, 24, 25, 26, 32, 33, 34, 35, 36, 37, 38, 39, 40, 41, 42, 43, 44, 45, 46, 47, 48, 49, 50, 51, 52, 53, 54, 55, 56, 57, 58, 59, 60, 61, 62, 63, 64, 65, 66, 67, 68, 69] rfl (by decide +kernel)
set_option maxRecDepth 20000 in
theorem gX7_told_X6_tell : GoodIn wsX7_told (wsV RX7 113 RX6 yX6_tell wsX6_tell) := goodIn_app (goodIn_of _ (by decide +kernel)) ggX7_told_X6_tell
set_option maxRecDepth 20000 in
theorem ggX8_doAct_X8_leafOf : GoodIn wsX8_doAct wsX8_leafOf := goodIn_r _ [26, 27] rfl (by decide +kernel)
set_option maxRecDepth 20000 in
theorem gX8_doAct_X8_leafOf : GoodIn wsX8_doAct (va_wsS RX8 166 yX8_leafOf wsX8_leafOf) := goodIn_app (goodIn_of _ (by decide +kernel)) ggX8_doAct_X8_leafOf
set_option maxRecDepth 20000 in
theorem ggX8_doAct_X8_see : GoodIn wsX8_doAct wsX8_see := goodIn_r _ [31, 12, 15, 11, 32, 17, 33, 34, 35, 36, 37, 38, 39, 40, 41, 42, 43, 44, 45, 46, 47, 48, 49, 50, 51, 52, 53, 54, 55, 56, 57, 58, 59, 60, 61, 62, 63, 64, 65, 66, 67, 68, 69, 70, 71, 72, 73, 74, 75, 76, 77, 78, 79, 80, 81, 82, 83, 84, 85, 86, 87, 88, 89, 90, 91, 92, 93, 94, 95, 96, 97] rfl (by decide +kernel)
set_option maxRecDepth 20000 in
theorem gX8_doAct_X8_see : GoodIn wsX8_doAct (wsV RX8 170 RX8 yX8_see wsX8_see) := goodIn_app (goodIn_of _ (by decide +kernel)) ggX8_doAct_X8_see
set_option maxRecDepth 20000 in
theorem ggX8_run_X8_isDone : GoodIn wsX8_run wsX8_isDone := goodIn_r _ [27, 21, 10, 1, 11, 129, 130, 131, 132, 133, 134, 135, 136, 137, 138, 139, 140, 141, 142, 143, 144, 145, 146, 147, 148, 149, 150, 151, 152, 153, 154, 155, 156, 157, 158, 159, 160, 161, 162, 163, 164, 165, 166, 167, 168, 169, 170, 171, 172, 173, 174, 175, 176, 177, 178, 179, 180, 181, 182, 183, 184, 185, 186, 187, 188, 189] rfl (by decide +kernel)
set_option maxRecDepth 20000 in
theorem gX8_run_X8_isDone : GoodIn wsX8_run (wsV RX8 204 RX8 yX8_isDone wsX8_isDone) := goodIn_app (goodIn_of _ (by decide +kernel)) ggX8_run_X8_isDone
set_option maxRecDepth 20000 in
theorem ggX8_run_X8_step : GoodIn wsX8_run wsX8_step := goodIn_r _ [31, 21, 11, 10, 14, 1, 32, 33, 34, 26, 35, 36, 37, 7, 38, 39, 40, 41, 19, 42, 43, 44, 45, 46, 47, 48, 49, 50, 51, 52, 53, 54, 18, 55, 56, 57, 58, 59, 60, 61, 62, 63, 20, 17, 9, 64, 65, 66, 67, 68, 69, 70, 71, 72, 12, 73, 13, 74, 75, 76, 77, 78, 8, 79, 80, 81, 82, 83, 84, 15, 85, 86, 87, 88, 89, 90, 91, 92, 93, 5, 6, 94, 4, 95, 96, 97, 98, 99, 100, 101, 102, 16, 129, 130, 131, 132, 133, 134, 135, 136, 137, 138, 139, 140, 141, 142, 143, 144, 145, 146, 147, 148, 149, 150, 151, 152, 153, 154, 155, 156, 157, 158, 159, 160, 161, 162, 163, 164, 165, 166, 167, 168, 169, 170, 171, 172, 173, 174, 175, 176, 177, 178, 179, 180, 181, 182, 183, 184, 185, 186, 187, 188, 189] rfl (by decide +kernel)
set_option maxRecDepth 20000 in
theorem gX8_run_X8_step : GoodIn wsX8_run (wsV RX8 209 RX8 yX8_step wsX8_step) := goodIn_app (goodIn_of _ (by decide +kernel)) ggX8_run_X8_step
set_option maxRecDepth 20000 in
theorem ggX8_run_X8_allInOrder : GoodIn wsX8_run wsX8_allInOrder := goodIn_r _ [106, 12, 13, 1, 53, 19, 74, 54, 73, 99, 100, 101, 26, 102, 16, 42, 17, 18, 20, 52, 38, 39, 40, 41, 43, 44, 45, 46, 47, 48, 49, 50, 51, 55, 56, 57, 58, 59, 60, 61, 62, 63, 9, 64, 65, 66, 67, 68, 69, 70, 71, 72, 129, 130, 131, 132, 133, 134, 135, 136, 137, 138, 139, 140, 141, 142, 143, 144, 145, 146, 147, 148, 149, 150, 151, 152, 153, 154, 155, 156, 157, 158, 159, 160, 161, 162, 163, 164, 165, 166, 167, 168, 169, 170, 171, 172, 173, 174, 175, 176, 177, 178, 179, 180, 181, 182, 183, 184, 185, 186, 187, 188, 189] rfl (by decide +kernel)
set_option maxRecDepth 20000 in
theorem gX8_run_X8_allInOrder : GoodIn wsX8_run (wsV RX8 213 RX8 yX8_allInOrder wsX8_allInOrder) := goodIn_app (goodIn_of _ (by decide +kernel)) ggX8_run_X8_allInOrder
set_option maxRecDepth 20000 in
theorem ggX8_run_X8_settle : GoodIn wsX8_run wsX8_settle := goodIn_r _ [110, 111, 2, 12, 72, 74, 20, 19, 112, 63, 113, 53, 114, 115, 18, 116, 117, 17, 118, 16, 119, 120, 121, 122, 123, 26, 124, 55, 125, 126, 127, 128, 129, 130, 131, 132, 133, 134, 135, 136, 137, 138, 139, 140, 141, 142, 143, 144, 145, 146, 147, 148, 149, 150, 151, 152, 153, 154, 155, 156, 157, 158, 159, 160, 161, 162, 163, 164, 165, 166, 167, 168, 169, 170, 171, 172, 173, 174, 175, 176, 177, 178, 179, 180, 181, 182, 183, 184, 185, 186, 187, 188, 189] rfl (by decide +kernel)
set_option maxRecDepth 20000 in
theorem gX8_run_X8_settle : GoodIn wsX8_run (wsV RX8 216 RX8 yX8_settle wsX8_settle) := goodIn_app (goodIn_of _ (by decide +kernel)) ggX8_run_X8_settle
set_option maxRecDepth 20000 in
theorem ggX8_step_X8_runStep : GoodIn wsX8_step wsX8_runStep := goodIn_r _ [10, 11, 4, 12, 1, 13, 14, 15, 16, 9, 17, 18, 19, 20, 21, 22, 23, 24, 25, 26, 27, 28, 29, 30, 31, 32, 33, 34, 35, 36, 37, 38, 39, 40, 41, 42, 43, 44, 45, 46, 47, 48, 49, 50, 51, 52, 53, 54, 55, 56, 57, 58, 59, 60, 61, 62, 63, 64, 65, 66, 67, 68, 69, 5, 3, 2, 70, 71, 72, 73, 74, 92, 93, 94, 95, 96, 97, 98, 99, 100, 101, 102, 103, 104, 105, 106, 107, 108, 109, 110, 111, 112, 113, 114, 115, 116, 117, 118, 119, 120, 121, 122, 123, 124, 125, 126, 127, 128, 129, 130, 131, 132, 133, 134, 135, 136, 137, 138, 139, 140, 141, 142, 143, 144, 145, 146, 147, 148, 149, 150, 151, 152] rfl (by decide +kernel)
set_option maxRecDepth 20000 in
theorem gX8_step_X8_runStep : GoodIn wsX8_step (wsV RX8 219 RX8 yX8_runStep wsX8_runStep) := goodIn_app (goodIn_of _ (by decide +kernel)) ggX8_step_X8_runStep
set_option maxRecDepth 20000 in
theorem ggX8_step_X8_lookStep : GoodIn wsX8_step wsX8_lookStep := goodIn_r _ [78, 11, 1, 79, 4, 69, 74, 32, 33, 34, 35, 36, 38, 37, 80, 56, 54, 81, 82, 2, 3, 49, 50, 51, 9, 52, 53, 40, 55, 57, 58, 59, 60, 61, 62, 63, 64, 83, 84, 85, 86, 87, 88, 89, 90, 91, 19, 43, 18, 42, 29, 30, 92, 93, 94, 95, 96, 97, 98, 99, 100, 101, 102, 103, 104, 105, 106, 107, 108, 109, 110, 111, 112, 113, 114, 115, 116, 117, 118, 119, 120, 121, 122, 123, 124, 125, 126, 127, 128, 129, 130, 131, 132, 133, 134, 135, 136, 137, 138, 139, 140, 141, 142, 143, 144, 145, 146, 147, 148, 149, 150, 151, 152] rfl (by decide +kernel)
set_option maxRecDepth 20000 in
theorem gX8_step_X8_lookStep : GoodIn wsX8_step (wsV RX8 222 RX8 yX8_lookStep wsX8_lookStep) := goodIn_app (goodIn_of _ (by decide +kernel)) ggX8_step_X8_lookStep
set_option maxRecDepth 20000 in
theorem ggX8_step_X8_toLook : GoodIn wsX8_step wsX8_toLook := goodIn_r _ [73, 1, 11, 74, 69, 92, 93, 94, 95, 96, 97, 98, 99, 100, 101, 102, 103, 104, 105, 106, 107, 108, 109, 110, 111, 112, 113, 114, 115, 116, 117, 118, 119, 120, 121, 122, 123, 124, 125, 126, 127, 128, 129, 130, 131, 132, 133, 134, 135, 136, 137, 138, 139, 140, 141, 142, 143, 144, 145, 146, 147, 148, 149, 150, 151, 152] rfl (by decide +kernel)
set_option maxRecDepth 20000 in
theorem gX8_step_X8_toLook : GoodIn wsX8_step (wsV RX8 225 RX8 yX8_toLook wsX8_toLook) := goodIn_app (goodIn_of _ (by decide +kernel)) ggX8_step_X8_toLook
set_option maxRecDepth 20000 in
theorem ggX8_step_X8_toRun : GoodIn wsX8_step wsX8_toRun := goodIn_r _ [86, 4, 1, 11, 87, 88, 89, 9, 90, 91, 19, 43, 18, 32, 42, 29, 30, 92, 93, 94, 95, 96, 97, 98, 99, 100, 101, 102, 103, 104, 105, 106, 107, 108, 109, 110, 111, 112, 113, 114, 115, 116, 117, 118, 119, 120, 121, 122, 123, 124, 125, 126, 127, 128, 129, 130, 131, 132, 133, 134, 135, 136, 137, 138, 139, 140, 141, 142, 143, 144, 145, 146, 147, 148, 149, 150, 151, 152] rfl (by decide +kernel)
set_option maxRecDepth 20000 in
theorem gX8_step_X8_toRun : GoodIn wsX8_step (wsV RX8 228 RX8 yX8_toRun wsX8_toRun) := goodIn_app (goodIn_of _ (by decide +kernel)) ggX8_step_X8_toRun
set_option maxRecDepth 20000 in
theorem ggX8_toRun_X8_begin : GoodIn wsX8_toRun wsX8_begin := goodIn_r _ [8, 9, 10, 11, 12, 13, 14, 15, 16, 17, 18, 19, 20, 21, 22, 23, 24, 25, 26, 27, 28, 29, 30, 31, 32, 33, 34, 35, 36, 37, 38, 39, 40, 41, 42, 43, 44, 45, 46, 47, 48, 49, 50, 51, 52, 53, 54, 55, 56, 57, 58, 59, 60, 61, 62, 63, 64, 65, 66, 67, 68, 69, 70, 71, 72, 73, 74, 75, 76, 77] rfl (by decide +kernel)
set_option maxRecDepth 20000 in
theorem gX8_toRun_X8_begin : GoodIn wsX8_toRun (wsV RX8 231 RX8 yX8_begin wsX8_begin) := goodIn_app (goodIn_of _ (by decide +kernel)) ggX8_toRun_X8_begin
set_option maxRecDepth 20000 in
theorem ggX8_runStep_X8_isOver : GoodIn wsX8_runStep wsX8_isOver := goodIn_r _ [10, 11, 12, 13, 71, 72, 73, 74, 75, 76, 77, 78, 79, 80, 81, 82, 83, 84, 85, 86, 87, 88, 89, 90, 91, 92, 93, 94, 95, 96, 97, 98, 99, 100, 101, 102, 103, 104, 105, 106, 107, 108, 109, 110, 111, 112, 113, 114, 115, 116, 117, 118, 119, 120, 121, 122, 123, 124, 125, 126, 127, 128, 129, 130, 131] rfl (by decide +kernel)
set_option maxRecDepth 20000 in
theorem gX8_runStep_X8_isOver : GoodIn wsX8_runStep (wsV RX8 234 RX8 yX8_isOver wsX8_isOver) := goodIn_app (goodIn_of _ (by decide +kernel)) ggX8_runStep_X8_isOver
set_option maxRecDepth 20000 in
theorem ggX8_runStep_X8_doAct : GoodIn wsX8_runStep wsX8_doAct := goodIn_r _ [17, 12, 18, 19, 20, 21, 22, 23, 24, 25, 26, 27, 28, 29, 30, 31, 32, 33, 34, 35, 11, 36, 37, 38, 39, 9, 40, 41, 42, 43, 44, 45, 46, 47, 48, 49, 50, 71, 72, 73, 74, 75, 76, 77, 78, 79, 80, 81, 82, 83, 84, 85, 86, 87, 88, 89, 90, 91, 92, 93, 94, 95, 96, 97, 98, 99, 100, 101, 102, 103, 104, 105, 106, 107, 108, 109, 110, 111, 112, 113, 114, 115, 116, 117, 118, 119, 120, 121, 122, 123, 124, 125, 126, 127, 128, 129, 130, 131] rfl (by decide +kernel)
set_option maxRecDepth 20000 in
theorem gX8_runStep_X8_doAct : GoodIn wsX8_runStep (wsV RX8 237 RX8 yX8_doAct wsX8_doAct) := goodIn_app (goodIn_of _ (by decide +kernel)) ggX8_runStep_X8_doAct
set_option maxRecDepth 20000 in
theorem ggX8_runStep_X8_conflict0 : GoodIn wsX8_runStep wsX8_conflict0 := goodIn_r _ [54, 55, 56, 57, 71, 72, 73, 74, 75, 76, 77, 78, 79, 80, 81, 82, 83, 84, 85, 86, 87, 88, 89, 90, 91, 92, 93, 94, 95, 96, 97, 98, 99, 100, 101, 102, 103, 104, 105, 106, 107, 108, 109, 110, 111, 112, 113, 114, 115, 116, 117, 118, 119, 120, 121, 122, 123, 124, 125, 126, 127, 128, 129, 130, 131] rfl (by decide +kernel)
set_option maxRecDepth 20000 in
theorem gX8_runStep_X8_conflict0 : GoodIn wsX8_runStep (wsV RX8 241 RX8 yX8_conflict0 wsX8_conflict0) := goodIn_app (goodIn_of _ (by decide +kernel)) ggX8_runStep_X8_conflict0
set_option maxRecDepth 20000 in
theorem ggX8_runStep_X8_ends : GoodIn wsX8_runStep wsX8_ends := goodIn_r _ [61, 23, 11, 47, 49, 50, 24, 48, 62, 2, 63, 3, 64, 65, 66, 67, 68, 9, 69, 4, 1, 70, 71, 72, 73, 74, 75, 76, 77, 78, 79, 80, 81, 82, 83, 84, 85, 86, 87, 88, 89, 90, 91, 92, 93, 94, 95, 96, 97, 98, 99, 100, 101, 102, 103, 104, 105, 106, 107, 108, 109, 110, 111, 112, 113, 114, 115, 116, 117, 118, 119, 120, 121, 122, 123, 124, 125, 126, 127, 128, 129, 130, 131] rfl (by decide +kernel)
set_option maxRecDepth 20000 in
theorem gX8_runStep_X8_ends : GoodIn wsX8_runStep (wsV RX8 244 RX8 yX8_ends wsX8_ends) := goodIn_app (goodIn_of _ (by decide +kernel)) ggX8_runStep_X8_ends
set_option maxRecDepth 20000 in
theorem ggX8_ends_X8_toLook : GoodIn wsX8_ends wsX8_toLook := goodIn_r _ [18, 19, 20, 21, 8, 22, 23, 24, 25, 26, 27, 28, 29, 30, 31, 32, 33, 34, 35, 36, 37, 38, 39, 40, 41, 42, 43, 44, 45, 46, 47, 48, 49, 50, 51, 52, 53, 54, 55, 56, 57, 58, 59, 60, 61, 62, 63, 64, 65, 66, 67, 68, 69, 70, 71, 72, 73, 74, 75, 76, 77, 78, 79, 80, 81, 82] rfl (by decide +kernel)
set_option maxRecDepth 20000 in
theorem gX8_ends_X8_toLook : GoodIn wsX8_ends (wsV RX8 225 RX8 yX8_toLook wsX8_toLook) := goodIn_app (goodIn_of _ (by decide +kernel)) ggX8_ends_X8_toLook
set_option maxRecDepth 20000 in
theorem ggX8_lookStep_X8_see : GoodIn wsX8_lookStep wsX8_see := goodIn_r _ [25, 10, 12, 9, 26, 27, 16, 28, 15, 29, 52, 53, 54, 55, 56, 57, 58, 59, 60, 61, 62, 63, 64, 65, 66, 67, 68, 69, 70, 71, 72, 73, 74, 75, 76, 77, 78, 79, 80, 81, 82, 83, 84, 85, 86, 87, 88, 89, 90, 91, 92, 93, 94, 95, 96, 97, 98, 99, 100, 101, 102, 103, 104, 105, 106, 107, 108, 109, 110, 111, 112] rfl (by decide +kernel)
set_option maxRecDepth 20000 in
theorem gX8_lookStep_X8_see : GoodIn wsX8_lookStep (wsV RX8 170 RX8 yX8_see wsX8_see) := goodIn_app (goodIn_of _ (by decide +kernel)) ggX8_lookStep_X8_see
set_option maxRecDepth 20000 in
theorem ggX8_lookStep_X8_conflict0 : GoodIn wsX8_lookStep wsX8_conflict0 := goodIn_r _ [33, 34, 35, 36, 52, 53, 54, 55, 56, 57, 58, 59, 60, 61, 62, 63, 64, 65, 66, 67, 68, 69, 70, 71, 72, 73, 74, 75, 76, 77, 78, 79, 80, 81, 82, 83, 84, 85, 86, 87, 88, 89, 90, 91, 92, 93, 94, 95, 96, 97, 98, 99, 100, 101, 102, 103, 104, 105, 106, 107, 108, 109, 110, 111, 112] rfl (by decide +kernel)
set_option maxRecDepth 20000 in
theorem gX8_lookStep_X8_conflict0 : GoodIn wsX8_lookStep (wsV RX8 241 RX8 yX8_conflict0 wsX8_conflict0) := goodIn_app (goodIn_of _ (by decide +kernel)) ggX8_lookStep_X8_conflict0
set_option maxRecDepth 20000 in
theorem ggX8_lookStep_X8_toRun : GoodIn wsX8_lookStep wsX8_toRun := goodIn_r _ [40, 4, 2, 1, 41, 42, 43, 24, 44, 45, 46, 47, 48, 7, 49, 50, 51, 52, 53, 54, 55, 56, 57, 58, 59, 60, 61, 62, 63, 64, 65, 66, 67, 68, 69, 70, 71, 72, 73, 74, 75, 76, 77, 78, 79, 80, 81, 82, 83, 84, 85, 86, 87, 88, 89, 90, 91, 92, 93, 94, 95, 96, 97, 98, 99, 100, 101, 102, 103, 104, 105, 106, 107, 108, 109, 110, 111, 112] rfl (by decide +kernel)
set_option maxRecDepth 20000 in
theorem gX8_lookStep_X8_toRun : GoodIn wsX8_lookStep (wsV RX8 228 RX8 yX8_toRun wsX8_toRun) := goodIn_app (goodIn_of _ (by decide +kernel)) ggX8_lookStep_X8_toRun
set_option maxRecDepth 20000 in
theorem ggX8_allInOrder_X8_begin : GoodIn wsX8_allInOrder wsX8_begin := goodIn_r _ [13, 14, 15, 16, 5, 17, 18, 19, 4, 52, 53, 54, 55, 56, 57, 58, 59, 60, 61, 62, 63, 64, 65, 66, 67, 68, 69, 70, 71, 72, 73, 74, 75, 76, 77, 78, 79, 80, 81, 82, 83, 84, 85, 86, 87, 88, 89, 90, 91, 92, 93, 94, 95, 96, 97, 98, 99, 100, 101, 102, 103, 104, 105, 106, 107, 108, 109, 110, 111, 112] rfl (by decide +kernel)
set_option maxRecDepth 20000 in
theorem gX8_allInOrder_X8_begin : GoodIn wsX8_allInOrder (wsV RX8 231 RX8 yX8_begin wsX8_begin) := goodIn_app (goodIn_of _ (by decide +kernel)) ggX8_allInOrder_X8_begin
set_option maxRecDepth 20000 in
theorem ggX8_allInOrder_X8_isOver : GoodIn wsX8_allInOrder wsX8_isOver := goodIn_r _ [23, 5, 15, 24, 52, 53, 54, 55, 56, 57, 58, 59, 60, 61, 62, 63, 64, 65, 66, 67, 68, 69, 70, 71, 72, 73, 74, 75, 76, 77, 78, 79, 80, 81, 82, 83, 84, 85, 86, 87, 88, 89, 90, 91, 92, 93, 94, 95, 96, 97, 98, 99, 100, 101, 102, 103, 104, 105, 106, 107, 108, 109, 110, 111, 112] rfl (by decide +kernel)
set_option maxRecDepth 20000 in
theorem gX8_allInOrder_X8_isOver : GoodIn wsX8_allInOrder (wsV RX8 234 RX8 yX8_isOver wsX8_isOver) := goodIn_app (goodIn_of _ (by decide +kernel)) ggX8_allInOrder_X8_isOver
set_option maxRecDepth 20000 in
theorem ggX8_allInOrder_X8_doAct : GoodIn wsX8_allInOrder wsX8_doAct := goodIn_r _ [28, 15, 29, 30, 31, 32, 19, 4, 7, 17, 33, 34, 35, 36, 37, 38, 39, 40, 41, 18, 5, 16, 42, 43, 44, 12, 45, 46, 47, 48, 49, 50, 51, 1, 8, 2, 6, 52, 53, 54, 55, 56, 57, 58, 59, 60, 61, 62, 63, 64, 65, 66, 67, 68, 69, 70, 71, 72, 73, 74, 75, 76, 77, 78, 79, 80, 81, 82, 83, 84, 85, 86, 87, 88, 89, 90, 91, 92, 93, 94, 95, 96, 97, 98, 99, 100, 101, 102, 103, 104, 105, 106, 107, 108, 109, 110, 111, 112] rfl (by decide +kernel)
set_option maxRecDepth 20000 in
theorem gX8_allInOrder_X8_doAct : GoodIn wsX8_allInOrder (wsV RX8 237 RX8 yX8_doAct wsX8_doAct) := goodIn_app (goodIn_of _ (by decide +kernel)) ggX8_allInOrder_X8_doAct
end
section
set_option maxRecDepth 20000 in
theorem ggX8_settle_X8_touches : GoodIn wsX8_settle wsX8_touches := goodIn_r _ [26, 11, 7, 14, 27, 32, 33, 34, 35, 36, 37, 38, 39, 40, 41, 42, 43, 44, 45, 46, 47, 48, 49, 50, 51, 52, 53, 54, 55, 56, 57, 58, 59, 60, 61, 62, 63, 64, 65, 66, 67, 68, 69, 70, 71, 72, 73, 74, 75, 76, 77, 78, 79, 80, 81, 82, 83, 84, 85, 86, 87, 88, 89, 90, 91, 92] rfl (by decide +kernel)
set_option maxRecDepth 20000 in
theorem gX8_settle_X8_touches : GoodIn wsX8_settle (wsV RX8 250 RX8 yX8_touches wsX8_touches) := goodIn_app (goodIn_of _ (by decide +kernel)) ggX8_settle_X8_touches
set_option maxRecDepth 20000 in
theorem ggX8_settle_X8_rootOf : GoodIn wsX8_settle wsX8_rootOf := goodIn_r _ [31, 20, 32, 33, 34, 35, 36, 37, 38, 39, 40, 41, 42, 43, 44, 45, 46, 47, 48, 49, 50, 51, 52, 53, 54, 55, 56, 57, 58, 59, 60, 61, 62, 63, 64, 65, 66, 67, 68, 69, 70, 71, 72, 73, 74, 75, 76, 77, 78, 79, 80, 81, 82, 83, 84, 85, 86, 87, 88, 89, 90, 91, 92] rfl (by decide +kernel)
set_option maxRecDepth 20000 in
theorem gX8_settle_X8_rootOf : GoodIn wsX8_settle (wsV RX8 254 RX8 yX8_rootOf wsX8_rootOf) := goodIn_app (goodIn_of _ (by decide +kernel)) ggX8_settle_X8_rootOf
set_option maxRecDepth 20000 in
theorem ggX8_inOrder_X8_leafOf : GoodIn wsX8_inOrder wsX8_leafOf := goodIn_r _ [14, 15] rfl (by decide +kernel)
set_option maxRecDepth 20000 in
theorem gX8_inOrder_X8_leafOf : GoodIn wsX8_inOrder (va_wsS RX8 166 yX8_leafOf wsX8_leafOf) := goodIn_app (goodIn_of _ (by decide +kernel)) ggX8_inOrder_X8_leafOf
end
section
def tX0_open : List (Nat × (Instr × Nat)) := [(0, (.aload_n 0, 1)), (1, (.iconst 0, 1)), (2, (.putfield 38, 3)), (5, (.aload_n 0, 1)), (6, (.iconst 0, 1)), (7, (.putfield 41, 3)), (10, (.return_, 1))]
def fX0_open : List (Nat × (Nat × Nat)) := [(38, (0, 1)), (41, (0, 2))]
def qX0_open : List (Nat × (Int32 ⊕ Int64)) := []
noncomputable def lX0_open : List (Nat × (Nat × (Option Nat × pFN))) := []
noncomputable def kX0_open : pFN := pm_met shX (some 0) tX0_open fX0_open qX0_open lX0_open 1 0
def mX0_open : Room := { frames := 0, cells := 0, slots := 0, locals := 0 }
set_option maxRecDepth 100000 in
theorem tX0_open_ok : ∀ q ∈ tX0_open, decode cX0_open q.1 = .ok q.2 ∧ pm_tok q.1 q.2.1 q.2.2 = true := by decide +kernel
set_option maxRecDepth 100000 in
theorem fX0_open_ok : ∀ q ∈ fX0_open, pm_Fok wsX0_open yX0_open.cls q.1 q.2.1 q.2.2 := List.forall_mem_cons.mpr ⟨⟨(RX0, TX0, 18), rfl, by decide, by decide +kernel, fun w h => List.mem_cons_of_mem _ (List.mem_append_right _ h)⟩, List.forall_mem_cons.mpr ⟨⟨(RX0, TX0, 18), rfl, by decide, by decide +kernel, fun w h => List.mem_cons_of_mem _ (List.mem_append_right _ h)⟩, fun _ h => absurd h List.not_mem_nil⟩⟩
set_option maxRecDepth 100000 in
theorem qX0_open_ok : ∀ q ∈ qX0_open, pm_Kok wsX0_open yX0_open.cls q.1 q.2 := fun _ h => absurd h List.not_mem_nil
set_option maxRecDepth 100000 in
theorem conX0_open (l : Launch) : pm_Con l yX0_open wsX0_open mX0_open shX 288 kX0_open := pm_met_con (cc := cX0_open) (by decide +kernel) rfl shX_N tX0_open_ok fX0_open_ok qX0_open_ok (fun _ h => absurd h List.not_mem_nil)

def tJ7_fill_d0a16 : List (Nat × (Instr × Nat)) := [(0, (.iconst 0, 1)), (1, (.istore_n 3, 1)), (2, (.aload_n 0, 1)), (3, (.arraylength, 1)), (4, (.istore 4, 2)), (6, (.iload_n 3, 1)), (7, (.iload 4, 2)), (9, (.if_icmp .ge 13, 3)), (12, (.aload_n 0, 1)), (13, (.iload_n 3, 1)), (14, (.lload_n 1, 1)), (15, (.lastore, 1)), (16, (.iinc 3 1, 3)), (19, (.goto (-13), 3)), (22, (.return_, 1))]
def fJ7_fill_d0a16 : List (Nat × (Nat × Nat)) := []
def qJ7_fill_d0a16 : List (Nat × (Int32 ⊕ Int64)) := []
noncomputable def lJ7_fill_d0a16 : List (Nat × (Nat × (Option Nat × pFN))) := []
noncomputable def kJ7_fill_d0a16 : pFN := pm_met shX (none) tJ7_fill_d0a16 fJ7_fill_d0a16 qJ7_fill_d0a16 lJ7_fill_d0a16 5 0
def mJ7_fill_d0a16 : Room := { frames := 0, cells := 0, slots := 0, locals := 0 }
set_option maxRecDepth 100000 in
theorem tJ7_fill_d0a16_ok : ∀ q ∈ tJ7_fill_d0a16, decode cJ7_fill_d0a16 q.1 = .ok q.2 ∧ pm_tok q.1 q.2.1 q.2.2 = true := by decide +kernel
set_option maxRecDepth 100000 in
theorem fJ7_fill_d0a16_ok : ∀ q ∈ fJ7_fill_d0a16, pm_Fok wsJ7_fill_d0a16 yJ7_fill_d0a16.cls q.1 q.2.1 q.2.2 := fun _ h => absurd h List.not_mem_nil
set_option maxRecDepth 100000 in
theorem qJ7_fill_d0a16_ok : ∀ q ∈ qJ7_fill_d0a16, pm_Kok wsJ7_fill_d0a16 yJ7_fill_d0a16.cls q.1 q.2 := fun _ h => absurd h List.not_mem_nil
set_option maxRecDepth 100000 in
theorem conJ7_fill_d0a16 (l : Launch) : pm_Con l yJ7_fill_d0a16 wsJ7_fill_d0a16 mJ7_fill_d0a16 shX 288 kJ7_fill_d0a16 := pm_met_con (cc := cJ7_fill_d0a16) (by decide +kernel) rfl shX_N tJ7_fill_d0a16_ok fJ7_fill_d0a16_ok qJ7_fill_d0a16_ok (fun _ h => absurd h List.not_mem_nil)

def tX0_begin : List (Nat × (Instr × Nat)) := [(0, (.aload_n 0, 1)), (1, (.dup, 1)), (2, (.getfield 38, 3)), (5, (.iconst 1, 1)), (6, (.iadd, 1)), (7, (.putfield 38, 3)), (10, (.aload_n 0, 1)), (11, (.iconst 0, 1)), (12, (.putfield 44, 3)), (15, (.aload_n 0, 1)), (16, (.iconst 0, 1)), (17, (.putfield 47, 3)), (20, (.aload_n 0, 1)), (21, (.iconst 0, 1)), (22, (.putfield 50, 3)), (25, (.aload_n 0, 1)), (26, (.iconst 0, 1)), (27, (.putfield 54, 3)), (30, (.aload_n 0, 1)), (31, (.iconst 0, 1)), (32, (.putfield 57, 3)), (35, (.aload_n 0, 1)), (36, (.iconst 0, 1)), (37, (.putfield 60, 3)), (40, (.aload_n 0, 1)), (41, (.iconst 0, 1)), (42, (.putfield 63, 3)), (45, (.aload_n 0, 1)), (46, (.getfield 18, 3)), (49, (.lconst 0, 1)), (50, (.invokestatic 66, 3)), (53, (.return_, 1))]
def fX0_begin : List (Nat × (Nat × Nat)) := [(38, (0, 1)), (44, (0, 10)), (47, (0, 3)), (50, (0, 4)), (54, (0, 5)), (57, (0, 11)), (60, (0, 12)), (63, (0, 6)), (18, (0, 13))]
def qX0_begin : List (Nat × (Int32 ⊕ Int64)) := []
noncomputable def lX0_begin : List (Nat × (Nat × (Option Nat × pFN))) := [(66, (2, (none, kJ7_fill_d0a16)))]
noncomputable def kX0_begin : pFN := pm_met shX (some 0) tX0_begin fX0_begin qX0_begin lX0_begin 1 0
def mX0_begin : Room := { frames := 1, cells := 0, slots := 0, locals := 24 }
set_option maxRecDepth 100000 in
theorem tX0_begin_ok : ∀ q ∈ tX0_begin, decode cX0_begin q.1 = .ok q.2 ∧ pm_tok q.1 q.2.1 q.2.2 = true := by decide +kernel
set_option maxRecDepth 100000 in
theorem fX0_begin_ok : ∀ q ∈ fX0_begin, pm_Fok wsX0_begin yX0_begin.cls q.1 q.2.1 q.2.2 := List.forall_mem_cons.mpr ⟨⟨(RX0, TX0, 18), rfl, by decide, by decide +kernel, fun w h => List.mem_cons_of_mem _ (List.mem_append_right _ h)⟩, List.forall_mem_cons.mpr ⟨⟨(RX0, TX0, 18), rfl, by decide, by decide +kernel, fun w h => List.mem_cons_of_mem _ (List.mem_append_right _ h)⟩, List.forall_mem_cons.mpr ⟨⟨(RX0, TX0, 18), rfl, by decide, by decide +kernel, fun w h => List.mem_cons_of_mem _ (List.mem_append_right _ h)⟩, List.forall_mem_cons.mpr ⟨⟨(RX0, TX0, 18), rfl, by decide, by decide +kernel, fun w h => List.mem_cons_of_mem _ (List.mem_append_right _ h)⟩, List.forall_mem_cons.mpr ⟨⟨(RX0, TX0, 18), rfl, by decide, by decide +kernel, fun w h => List.mem_cons_of_mem _ (List.mem_append_right _ h)⟩, List.forall_mem_cons.mpr ⟨⟨(RX0, TX0, 18), rfl, by decide, by decide +kernel, fun w h => List.mem_cons_of_mem _ (List.mem_append_right _ h)⟩, List.forall_mem_cons.mpr ⟨⟨(RX0, TX0, 18), rfl, by decide, by decide +kernel, fun w h => List.mem_cons_of_mem _ (List.mem_append_right _ h)⟩, List.forall_mem_cons.mpr ⟨⟨(RX0, TX0, 18), rfl, by decide, by decide +kernel, fun w h => List.mem_cons_of_mem _ (List.mem_append_right _ h)⟩, List.forall_mem_cons.mpr ⟨⟨(RX0, TX0, 18), rfl, by decide, by decide +kernel, fun w h => List.mem_cons_of_mem _ (List.mem_append_right _ h)⟩, fun _ h => absurd h List.not_mem_nil⟩⟩⟩⟩⟩⟩⟩⟩⟩
set_option maxRecDepth 100000 in
theorem qX0_begin_ok : ∀ q ∈ qX0_begin, pm_Kok wsX0_begin yX0_begin.cls q.1 q.2 := fun _ h => absurd h List.not_mem_nil
set_option maxRecDepth 100000 in
theorem conX0_begin (l : Launch) : pm_Con l yX0_begin wsX0_begin mX0_begin shX 288 kX0_begin := pm_met_con (cc := cX0_begin) (by decide +kernel) rfl shX_N tX0_begin_ok fX0_begin_ok qX0_begin_ok (List.forall_mem_cons.mpr ⟨Or.inl ⟨yJ7_fill_d0a16, wsJ7_fill_d0a16, _, mJ7_fill_d0a16, cJ7_fill_d0a16, 5, pm_rt 0, conJ7_fill_d0a16 l, gX0_begin_J7_fill_d0a16, rfl, rfl, rfl, by decide +kernel, by decide⟩, fun _ h => absurd h List.not_mem_nil⟩)

def tX2_hasAct : List (Nat × (Instr × Nat)) := [(0, (.iload_n 1, 1)), (1, (.ifCond .lt 29, 3)), (4, (.iload_n 1, 1)), (5, (.aload_n 0, 1)), (6, (.getfield 28, 3)), (9, (.if_icmp .ge 21, 3)), (12, (.iload_n 2, 1)), (13, (.ifCond .lt 17, 3)), (16, (.iload_n 2, 1)), (17, (.aload_n 0, 1)), (18, (.getfield 9, 3)), (21, (.iload_n 1, 1)), (22, (.iaload, 1)), (23, (.if_icmp .ge 7, 3)), (26, (.iconst 1, 1)), (27, (.goto 4, 3)), (30, (.iconst 0, 1)), (31, (.ireturn, 1))]
def fX2_hasAct : List (Nat × (Nat × Nat)) := [(28, (2, 0)), (9, (2, 1))]
def qX2_hasAct : List (Nat × (Int32 ⊕ Int64)) := []
noncomputable def lX2_hasAct : List (Nat × (Nat × (Option Nat × pFN))) := []
noncomputable def kX2_hasAct : pFN := pm_met shX (some 2) tX2_hasAct fX2_hasAct qX2_hasAct lX2_hasAct 3 2
def mX2_hasAct : Room := { frames := 0, cells := 0, slots := 0, locals := 0 }
set_option maxRecDepth 100000 in
theorem tX2_hasAct_ok : ∀ q ∈ tX2_hasAct, decode cX2_hasAct q.1 = .ok q.2 ∧ pm_tok q.1 q.2.1 q.2.2 = true := by decide +kernel
set_option maxRecDepth 100000 in
theorem fX2_hasAct_ok : ∀ q ∈ fX2_hasAct, pm_Fok wsX2_hasAct yX2_hasAct.cls q.1 q.2.1 q.2.2 := List.forall_mem_cons.mpr ⟨⟨(RX2, TX2, 6), rfl, by decide, by decide +kernel, fun w h => List.mem_cons_of_mem _ (List.mem_append_right _ h)⟩, List.forall_mem_cons.mpr ⟨⟨(RX2, TX2, 6), rfl, by decide, by decide +kernel, fun w h => List.mem_cons_of_mem _ (List.mem_append_right _ h)⟩, fun _ h => absurd h List.not_mem_nil⟩⟩
set_option maxRecDepth 100000 in
theorem qX2_hasAct_ok : ∀ q ∈ qX2_hasAct, pm_Kok wsX2_hasAct yX2_hasAct.cls q.1 q.2 := fun _ h => absurd h List.not_mem_nil
set_option maxRecDepth 100000 in
theorem conX2_hasAct (l : Launch) : pm_Con l yX2_hasAct wsX2_hasAct mX2_hasAct shX 288 kX2_hasAct := pm_met_con (cc := cX2_hasAct) (by decide +kernel) rfl shX_N tX2_hasAct_ok fX2_hasAct_ok qX2_hasAct_ok (fun _ h => absurd h List.not_mem_nil)

def tX0_isOver : List (Nat × (Instr × Nat)) := [(0, (.aload_n 0, 1)), (1, (.getfield 50, 3)), (4, (.ifCond .ne 18, 3)), (7, (.aload_n 1, 1)), (8, (.aload_n 0, 1)), (9, (.getfield 34, 3)), (12, (.aload_n 0, 1)), (13, (.getfield 44, 3)), (16, (.invokevirtual 72, 3)), (19, (.ifCond .ne 7, 3)), (22, (.iconst 1, 1)), (23, (.goto 4, 3)), (26, (.iconst 0, 1)), (27, (.ireturn, 1))]
def fX0_isOver : List (Nat × (Nat × Nat)) := [(50, (0, 4)), (34, (0, 0)), (44, (0, 10))]
def qX0_isOver : List (Nat × (Int32 ⊕ Int64)) := []
noncomputable def lX0_isOver : List (Nat × (Nat × (Option Nat × pFN))) := [(72, (3, (some 2, kX2_hasAct)))]
noncomputable def kX0_isOver : pFN := pm_met shX (some 0) tX0_isOver fX0_isOver qX0_isOver lX0_isOver 2 2
def mX0_isOver : Room := { frames := 1, cells := 0, slots := 0, locals := 22 }
set_option maxRecDepth 100000 in
theorem tX0_isOver_ok : ∀ q ∈ tX0_isOver, decode cX0_isOver q.1 = .ok q.2 ∧ pm_tok q.1 q.2.1 q.2.2 = true := by decide +kernel
set_option maxRecDepth 100000 in
theorem fX0_isOver_ok : ∀ q ∈ fX0_isOver, pm_Fok wsX0_isOver yX0_isOver.cls q.1 q.2.1 q.2.2 := List.forall_mem_cons.mpr ⟨⟨(RX0, TX0, 18), rfl, by decide, by decide +kernel, fun w h => List.mem_cons_of_mem _ (List.mem_append_left _ (List.mem_append_right _ h))⟩, List.forall_mem_cons.mpr ⟨⟨(RX0, TX0, 18), rfl, by decide, by decide +kernel, fun w h => List.mem_cons_of_mem _ (List.mem_append_left _ (List.mem_append_right _ h))⟩, List.forall_mem_cons.mpr ⟨⟨(RX0, TX0, 18), rfl, by decide, by decide +kernel, fun w h => List.mem_cons_of_mem _ (List.mem_append_left _ (List.mem_append_right _ h))⟩, fun _ h => absurd h List.not_mem_nil⟩⟩⟩
set_option maxRecDepth 100000 in
theorem qX0_isOver_ok : ∀ q ∈ qX0_isOver, pm_Kok wsX0_isOver yX0_isOver.cls q.1 q.2 := fun _ h => absurd h List.not_mem_nil
set_option maxRecDepth 100000 in
theorem conX0_isOver (l : Launch) : pm_Con l yX0_isOver wsX0_isOver mX0_isOver shX 288 kX0_isOver := pm_met_con (cc := cX0_isOver) (by decide +kernel) rfl shX_N tX0_isOver_ok fX0_isOver_ok qX0_isOver_ok (List.forall_mem_cons.mpr ⟨⟨yX2_hasAct, wsX2_hasAct, _, mX2_hasAct, cX2_hasAct, 3, pm_rt 2, (RX2, TX2, 6), conX2_hasAct l, pm_met_recv, rfl, gX0_isOver_X2_hasAct, rfl, rfl, rfl, by decide +kernel, by decide⟩, fun _ h => absurd h List.not_mem_nil⟩)

def tX0_hasWritten : List (Nat × (Instr × Nat)) := [(0, (.aload_n 0, 1)), (1, (.getfield 60, 3)), (4, (.iconst 1, 1)), (5, (.iload_n 1, 1)), (6, (.ishl, 1)), (7, (.iand, 1)), (8, (.ifCond .eq 7, 3)), (11, (.iconst 1, 1)), (12, (.goto 4, 3)), (15, (.iconst 0, 1)), (16, (.ireturn, 1))]
def fX0_hasWritten : List (Nat × (Nat × Nat)) := [(60, (0, 12))]
def qX0_hasWritten : List (Nat × (Int32 ⊕ Int64)) := []
noncomputable def lX0_hasWritten : List (Nat × (Nat × (Option Nat × pFN))) := []
noncomputable def kX0_hasWritten : pFN := pm_met shX (some 0) tX0_hasWritten fX0_hasWritten qX0_hasWritten lX0_hasWritten 2 2
def mX0_hasWritten : Room := { frames := 0, cells := 0, slots := 0, locals := 0 }
set_option maxRecDepth 100000 in
theorem tX0_hasWritten_ok : ∀ q ∈ tX0_hasWritten, decode cX0_hasWritten q.1 = .ok q.2 ∧ pm_tok q.1 q.2.1 q.2.2 = true := by decide +kernel
set_option maxRecDepth 100000 in
theorem fX0_hasWritten_ok : ∀ q ∈ fX0_hasWritten, pm_Fok wsX0_hasWritten yX0_hasWritten.cls q.1 q.2.1 q.2.2 := List.forall_mem_cons.mpr ⟨⟨(RX0, TX0, 18), rfl, by decide, by decide +kernel, fun w h => List.mem_cons_of_mem _ (List.mem_append_right _ h)⟩, fun _ h => absurd h List.not_mem_nil⟩
set_option maxRecDepth 100000 in
theorem qX0_hasWritten_ok : ∀ q ∈ qX0_hasWritten, pm_Kok wsX0_hasWritten yX0_hasWritten.cls q.1 q.2 := fun _ h => absurd h List.not_mem_nil
set_option maxRecDepth 100000 in
theorem conX0_hasWritten (l : Launch) : pm_Con l yX0_hasWritten wsX0_hasWritten mX0_hasWritten shX 288 kX0_hasWritten := pm_met_con (cc := cX0_hasWritten) (by decide +kernel) rfl shX_N tX0_hasWritten_ok fX0_hasWritten_ok qX0_hasWritten_ok (fun _ h => absurd h List.not_mem_nil)

def tJ6_bitCount_0f7a4 : List (Nat × (Instr × Nat)) := [(0, (.iload_n 0, 1)), (1, (.iload_n 0, 1)), (2, (.iconst 1, 1)), (3, (.iushr, 1)), (4, (.ldc_w 265, 3)), (7, (.iand, 1)), (8, (.isub, 1)), (9, (.istore_n 0, 1)), (10, (.iload_n 0, 1)), (11, (.ldc_w 266, 3)), (14, (.iand, 1)), (15, (.iload_n 0, 1)), (16, (.iconst 2, 1)), (17, (.iushr, 1)), (18, (.ldc_w 266, 3)), (21, (.iand, 1)), (22, (.iadd, 1)), (23, (.istore_n 0, 1)), (24, (.iload_n 0, 1)), (25, (.iload_n 0, 1)), (26, (.iconst 4, 1)), (27, (.iushr, 1)), (28, (.iadd, 1)), (29, (.ldc_w 267, 3)), (32, (.iand, 1)), (33, (.istore_n 0, 1)), (34, (.iload_n 0, 1)), (35, (.iload_n 0, 1)), (36, (.bipush 8, 2)), (38, (.iushr, 1)), (39, (.iadd, 1)), (40, (.istore_n 0, 1)), (41, (.iload_n 0, 1)), (42, (.iload_n 0, 1)), (43, (.bipush 16, 2)), (45, (.iushr, 1)), (46, (.iadd, 1)), (47, (.istore_n 0, 1)), (48, (.iload_n 0, 1)), (49, (.bipush 63, 2)), (51, (.iand, 1)), (52, (.ireturn, 1))]
def fJ6_bitCount_0f7a4 : List (Nat × (Nat × Nat)) := []
def qJ6_bitCount_0f7a4 : List (Nat × (Int32 ⊕ Int64)) := [(265, .inl (1431655765)), (266, .inl (858993459)), (267, .inl (252645135))]
noncomputable def lJ6_bitCount_0f7a4 : List (Nat × (Nat × (Option Nat × pFN))) := []
noncomputable def kJ6_bitCount_0f7a4 : pFN := pm_met shX (none) tJ6_bitCount_0f7a4 fJ6_bitCount_0f7a4 qJ6_bitCount_0f7a4 lJ6_bitCount_0f7a4 1 1
def mJ6_bitCount_0f7a4 : Room := { frames := 0, cells := 0, slots := 0, locals := 0 }
set_option maxRecDepth 100000 in
theorem tJ6_bitCount_0f7a4_ok : ∀ q ∈ tJ6_bitCount_0f7a4, decode cJ6_bitCount_0f7a4 q.1 = .ok q.2 ∧ pm_tok q.1 q.2.1 q.2.2 = true := by decide +kernel
set_option maxRecDepth 100000 in
theorem fJ6_bitCount_0f7a4_ok : ∀ q ∈ fJ6_bitCount_0f7a4, pm_Fok wsJ6_bitCount_0f7a4 yJ6_bitCount_0f7a4.cls q.1 q.2.1 q.2.2 := fun _ h => absurd h List.not_mem_nil
set_option maxRecDepth 100000 in
theorem qJ6_bitCount_0f7a4_ok : ∀ q ∈ qJ6_bitCount_0f7a4, pm_Kok wsJ6_bitCount_0f7a4 yJ6_bitCount_0f7a4.cls q.1 q.2 := List.forall_mem_cons.mpr ⟨(by decide +kernel : _ ∈ wsJ6_bitCount_0f7a4), List.forall_mem_cons.mpr ⟨(by decide +kernel : _ ∈ wsJ6_bitCount_0f7a4), List.forall_mem_cons.mpr ⟨(by decide +kernel : _ ∈ wsJ6_bitCount_0f7a4), fun _ h => absurd h List.not_mem_nil⟩⟩⟩
set_option maxRecDepth 100000 in
theorem conJ6_bitCount_0f7a4 (l : Launch) : pm_Con l yJ6_bitCount_0f7a4 wsJ6_bitCount_0f7a4 mJ6_bitCount_0f7a4 shX 288 kJ6_bitCount_0f7a4 := pm_met_con (cc := cJ6_bitCount_0f7a4) (by decide +kernel) rfl shX_N tJ6_bitCount_0f7a4_ok fJ6_bitCount_0f7a4_ok qJ6_bitCount_0f7a4_ok (fun _ h => absurd h List.not_mem_nil)

def tX0_countWritten : List (Nat × (Instr × Nat)) := [(0, (.aload_n 0, 1)), (1, (.getfield 60, 3)), (4, (.invokestatic 78, 3)), (7, (.ireturn, 1))]
def fX0_countWritten : List (Nat × (Nat × Nat)) := [(60, (0, 12))]
def qX0_countWritten : List (Nat × (Int32 ⊕ Int64)) := []
noncomputable def lX0_countWritten : List (Nat × (Nat × (Option Nat × pFN))) := [(78, (1, (none, kJ6_bitCount_0f7a4)))]
noncomputable def kX0_countWritten : pFN := pm_met shX (some 0) tX0_countWritten fX0_countWritten qX0_countWritten lX0_countWritten 1 1
def mX0_countWritten : Room := { frames := 1, cells := 0, slots := 0, locals := 20 }
set_option maxRecDepth 100000 in
theorem tX0_countWritten_ok : ∀ q ∈ tX0_countWritten, decode cX0_countWritten q.1 = .ok q.2 ∧ pm_tok q.1 q.2.1 q.2.2 = true := by decide +kernel
set_option maxRecDepth 100000 in
theorem fX0_countWritten_ok : ∀ q ∈ fX0_countWritten, pm_Fok wsX0_countWritten yX0_countWritten.cls q.1 q.2.1 q.2.2 := List.forall_mem_cons.mpr ⟨⟨(RX0, TX0, 18), rfl, by decide, by decide +kernel, fun w h => List.mem_cons_of_mem _ (List.mem_append_right _ h)⟩, fun _ h => absurd h List.not_mem_nil⟩
set_option maxRecDepth 100000 in
theorem qX0_countWritten_ok : ∀ q ∈ qX0_countWritten, pm_Kok wsX0_countWritten yX0_countWritten.cls q.1 q.2 := fun _ h => absurd h List.not_mem_nil
set_option maxRecDepth 100000 in
theorem conX0_countWritten (l : Launch) : pm_Con l yX0_countWritten wsX0_countWritten mX0_countWritten shX 288 kX0_countWritten := pm_met_con (cc := cX0_countWritten) (by decide +kernel) rfl shX_N tX0_countWritten_ok fX0_countWritten_ok qX0_countWritten_ok (List.forall_mem_cons.mpr ⟨Or.inl ⟨yJ6_bitCount_0f7a4, wsJ6_bitCount_0f7a4, _, mJ6_bitCount_0f7a4, cJ6_bitCount_0f7a4, 1, pm_rt 1, conJ6_bitCount_0f7a4 l, gX0_countWritten_J6_bitCount_0f7a4, rfl, rfl, rfl, by decide +kernel, by decide⟩, fun _ h => absurd h List.not_mem_nil⟩)

def tX0_touched : List (Nat × (Instr × Nat)) := [(0, (.aload_n 0, 1)), (1, (.getfield 57, 3)), (4, (.aload_n 0, 1)), (5, (.getfield 60, 3)), (8, (.ior, 1)), (9, (.iconst 1, 1)), (10, (.iload_n 1, 1)), (11, (.ishl, 1)), (12, (.iand, 1)), (13, (.ifCond .eq 7, 3)), (16, (.iconst 1, 1)), (17, (.goto 4, 3)), (20, (.iconst 0, 1)), (21, (.ireturn, 1))]
def fX0_touched : List (Nat × (Nat × Nat)) := [(57, (0, 11)), (60, (0, 12))]
def qX0_touched : List (Nat × (Int32 ⊕ Int64)) := []
noncomputable def lX0_touched : List (Nat × (Nat × (Option Nat × pFN))) := []
noncomputable def kX0_touched : pFN := pm_met shX (some 0) tX0_touched fX0_touched qX0_touched lX0_touched 2 2
def mX0_touched : Room := { frames := 0, cells := 0, slots := 0, locals := 0 }
set_option maxRecDepth 100000 in
theorem tX0_touched_ok : ∀ q ∈ tX0_touched, decode cX0_touched q.1 = .ok q.2 ∧ pm_tok q.1 q.2.1 q.2.2 = true := by decide +kernel
set_option maxRecDepth 100000 in
theorem fX0_touched_ok : ∀ q ∈ fX0_touched, pm_Fok wsX0_touched yX0_touched.cls q.1 q.2.1 q.2.2 := List.forall_mem_cons.mpr ⟨⟨(RX0, TX0, 18), rfl, by decide, by decide +kernel, fun w h => List.mem_cons_of_mem _ (List.mem_append_right _ h)⟩, List.forall_mem_cons.mpr ⟨⟨(RX0, TX0, 18), rfl, by decide, by decide +kernel, fun w h => List.mem_cons_of_mem _ (List.mem_append_right _ h)⟩, fun _ h => absurd h List.not_mem_nil⟩⟩
set_option maxRecDepth 100000 in
theorem qX0_touched_ok : ∀ q ∈ qX0_touched, pm_Kok wsX0_touched yX0_touched.cls q.1 q.2 := fun _ h => absurd h List.not_mem_nil
set_option maxRecDepth 100000 in
theorem conX0_touched (l : Launch) : pm_Con l yX0_touched wsX0_touched mX0_touched shX 288 kX0_touched := pm_met_con (cc := cX0_touched) (by decide +kernel) rfl shX_N tX0_touched_ok fX0_touched_ok qX0_touched_ok (fun _ h => absurd h List.not_mem_nil)

def tX0_leafAt : List (Nat × (Instr × Nat)) := [(0, (.lload_n 2, 1)), (1, (.aload_n 0, 1)), (2, (.getfield 18, 3)), (5, (.iload_n 1, 1)), (6, (.laload, 1)), (7, (.ladd, 1)), (8, (.ldc2_w 114, 3)), (11, (.land, 1)), (12, (.l2i, 1)), (13, (.ireturn, 1))]
def fX0_leafAt : List (Nat × (Nat × Nat)) := [(18, (0, 13))]
def qX0_leafAt : List (Nat × (Int32 ⊕ Int64)) := [(114, .inr (31))]
noncomputable def lX0_leafAt : List (Nat × (Nat × (Option Nat × pFN))) := []
noncomputable def kX0_leafAt : pFN := pm_met shX (some 0) tX0_leafAt fX0_leafAt qX0_leafAt lX0_leafAt 4 1
def mX0_leafAt : Room := { frames := 0, cells := 0, slots := 0, locals := 0 }
set_option maxRecDepth 100000 in
theorem tX0_leafAt_ok : ∀ q ∈ tX0_leafAt, decode cX0_leafAt q.1 = .ok q.2 ∧ pm_tok q.1 q.2.1 q.2.2 = true := by decide +kernel
set_option maxRecDepth 100000 in
theorem fX0_leafAt_ok : ∀ q ∈ fX0_leafAt, pm_Fok wsX0_leafAt yX0_leafAt.cls q.1 q.2.1 q.2.2 := List.forall_mem_cons.mpr ⟨⟨(RX0, TX0, 18), rfl, by decide, by decide +kernel, fun w h => List.mem_cons_of_mem _ (List.mem_append_right _ h)⟩, fun _ h => absurd h List.not_mem_nil⟩
set_option maxRecDepth 100000 in
theorem qX0_leafAt_ok : ∀ q ∈ qX0_leafAt, pm_Kok wsX0_leafAt yX0_leafAt.cls q.1 q.2 := List.forall_mem_cons.mpr ⟨(by decide +kernel : _ ∈ wsX0_leafAt), fun _ h => absurd h List.not_mem_nil⟩
set_option maxRecDepth 100000 in
theorem conX0_leafAt (l : Launch) : pm_Con l yX0_leafAt wsX0_leafAt mX0_leafAt shX 288 kX0_leafAt := pm_met_con (cc := cX0_leafAt) (by decide +kernel) rfl shX_N tX0_leafAt_ok fX0_leafAt_ok qX0_leafAt_ok (fun _ h => absurd h List.not_mem_nil)

def tX5_writerBelow : List (Nat × (Instr × Nat)) := [(0, (.iload_n 2, 1)), (1, (.iconst 1, 1)), (2, (.isub, 1)), (3, (.istore_n 3, 1)), (4, (.iload_n 3, 1)), (5, (.ifCond .lt 25, 3)), (8, (.aload_n 0, 1)), (9, (.getfield 15, 3)), (12, (.iload_n 1, 1)), (13, (.bipush 16, 2)), (15, (.imul, 1)), (16, (.iload_n 3, 1)), (17, (.iadd, 1)), (18, (.iaload, 1)), (19, (.ifCond .eq 5, 3)), (22, (.iload_n 3, 1)), (23, (.ireturn, 1)), (24, (.iinc 3 (-1), 3)), (27, (.goto (-23), 3)), (30, (.iconst (-1), 1)), (31, (.ireturn, 1))]
def fX5_writerBelow : List (Nat × (Nat × Nat)) := [(15, (4, 1))]
def qX5_writerBelow : List (Nat × (Int32 ⊕ Int64)) := []
noncomputable def lX5_writerBelow : List (Nat × (Nat × (Option Nat × pFN))) := []
noncomputable def kX5_writerBelow : pFN := pm_met shX (some 4) tX5_writerBelow fX5_writerBelow qX5_writerBelow lX5_writerBelow 4 1
def mX5_writerBelow : Room := { frames := 0, cells := 0, slots := 0, locals := 0 }
set_option maxRecDepth 100000 in
theorem tX5_writerBelow_ok : ∀ q ∈ tX5_writerBelow, decode cX5_writerBelow q.1 = .ok q.2 ∧ pm_tok q.1 q.2.1 q.2.2 = true := by decide +kernel
set_option maxRecDepth 100000 in
theorem fX5_writerBelow_ok : ∀ q ∈ fX5_writerBelow, pm_Fok wsX5_writerBelow yX5_writerBelow.cls q.1 q.2.1 q.2.2 := List.forall_mem_cons.mpr ⟨⟨(RX5, TX5, 4), rfl, by decide, by decide +kernel, fun w h => List.mem_cons_of_mem _ (List.mem_append_right _ h)⟩, fun _ h => absurd h List.not_mem_nil⟩
set_option maxRecDepth 100000 in
theorem qX5_writerBelow_ok : ∀ q ∈ qX5_writerBelow, pm_Kok wsX5_writerBelow yX5_writerBelow.cls q.1 q.2 := fun _ h => absurd h List.not_mem_nil
set_option maxRecDepth 100000 in
theorem conX5_writerBelow (l : Launch) : pm_Con l yX5_writerBelow wsX5_writerBelow mX5_writerBelow shX 288 kX5_writerBelow := pm_met_con (cc := cX5_writerBelow) (by decide +kernel) rfl shX_N tX5_writerBelow_ok fX5_writerBelow_ok qX5_writerBelow_ok (fun _ h => absurd h List.not_mem_nil)

def tX5_isPerhaps : List (Nat × (Instr × Nat)) := [(0, (.iload_n 2, 1)), (1, (.iconst (-1), 1)), (2, (.if_icmp .eq 22, 3)), (5, (.aload_n 0, 1)), (6, (.getfield 15, 3)), (9, (.iload_n 1, 1)), (10, (.bipush 16, 2)), (12, (.imul, 1)), (13, (.iload_n 2, 1)), (14, (.iadd, 1)), (15, (.iaload, 1)), (16, (.iconst 2, 1)), (17, (.if_icmp .ne 7, 3)), (20, (.iconst 1, 1)), (21, (.goto 4, 3)), (24, (.iconst 0, 1)), (25, (.ireturn, 1))]
def fX5_isPerhaps : List (Nat × (Nat × Nat)) := [(15, (4, 1))]
def qX5_isPerhaps : List (Nat × (Int32 ⊕ Int64)) := []
noncomputable def lX5_isPerhaps : List (Nat × (Nat × (Option Nat × pFN))) := []
noncomputable def kX5_isPerhaps : pFN := pm_met shX (some 4) tX5_isPerhaps fX5_isPerhaps qX5_isPerhaps lX5_isPerhaps 3 2
def mX5_isPerhaps : Room := { frames := 0, cells := 0, slots := 0, locals := 0 }
set_option maxRecDepth 100000 in
theorem tX5_isPerhaps_ok : ∀ q ∈ tX5_isPerhaps, decode cX5_isPerhaps q.1 = .ok q.2 ∧ pm_tok q.1 q.2.1 q.2.2 = true := by decide +kernel
set_option maxRecDepth 100000 in
theorem fX5_isPerhaps_ok : ∀ q ∈ fX5_isPerhaps, pm_Fok wsX5_isPerhaps yX5_isPerhaps.cls q.1 q.2.1 q.2.2 := List.forall_mem_cons.mpr ⟨⟨(RX5, TX5, 4), rfl, by decide, by decide +kernel, fun w h => List.mem_cons_of_mem _ (List.mem_append_right _ h)⟩, fun _ h => absurd h List.not_mem_nil⟩
set_option maxRecDepth 100000 in
theorem qX5_isPerhaps_ok : ∀ q ∈ qX5_isPerhaps, pm_Kok wsX5_isPerhaps yX5_isPerhaps.cls q.1 q.2 := fun _ h => absurd h List.not_mem_nil
set_option maxRecDepth 100000 in
theorem conX5_isPerhaps (l : Launch) : pm_Con l yX5_isPerhaps wsX5_isPerhaps mX5_isPerhaps shX 288 kX5_isPerhaps := pm_met_con (cc := cX5_isPerhaps) (by decide +kernel) rfl shX_N tX5_isPerhaps_ok fX5_isPerhaps_ok qX5_isPerhaps_ok (fun _ h => absurd h List.not_mem_nil)

def tX5_numberOf : List (Nat × (Instr × Nat)) := [(0, (.iload_n 2, 1)), (1, (.iconst (-1), 1)), (2, (.if_icmp .ne 7, 3)), (5, (.iconst (-1), 1)), (6, (.goto 14, 3)), (9, (.aload_n 0, 1)), (10, (.getfield 19, 3)), (13, (.iload_n 1, 1)), (14, (.bipush 16, 2)), (16, (.imul, 1)), (17, (.iload_n 2, 1)), (18, (.iadd, 1)), (19, (.iaload, 1)), (20, (.ireturn, 1))]
def fX5_numberOf : List (Nat × (Nat × Nat)) := [(19, (4, 2))]
def qX5_numberOf : List (Nat × (Int32 ⊕ Int64)) := []
noncomputable def lX5_numberOf : List (Nat × (Nat × (Option Nat × pFN))) := []
noncomputable def kX5_numberOf : pFN := pm_met shX (some 4) tX5_numberOf fX5_numberOf qX5_numberOf lX5_numberOf 3 1
def mX5_numberOf : Room := { frames := 0, cells := 0, slots := 0, locals := 0 }
set_option maxRecDepth 100000 in
theorem tX5_numberOf_ok : ∀ q ∈ tX5_numberOf, decode cX5_numberOf q.1 = .ok q.2 ∧ pm_tok q.1 q.2.1 q.2.2 = true := by decide +kernel
set_option maxRecDepth 100000 in
theorem fX5_numberOf_ok : ∀ q ∈ fX5_numberOf, pm_Fok wsX5_numberOf yX5_numberOf.cls q.1 q.2.1 q.2.2 := List.forall_mem_cons.mpr ⟨⟨(RX5, TX5, 4), rfl, by decide, by decide +kernel, fun w h => List.mem_cons_of_mem _ (List.mem_append_right _ h)⟩, fun _ h => absurd h List.not_mem_nil⟩
set_option maxRecDepth 100000 in
theorem qX5_numberOf_ok : ∀ q ∈ qX5_numberOf, pm_Kok wsX5_numberOf yX5_numberOf.cls q.1 q.2 := fun _ h => absurd h List.not_mem_nil
set_option maxRecDepth 100000 in
theorem conX5_numberOf (l : Launch) : pm_Con l yX5_numberOf wsX5_numberOf mX5_numberOf shX 288 kX5_numberOf := pm_met_con (cc := cX5_numberOf) (by decide +kernel) rfl shX_N tX5_numberOf_ok fX5_numberOf_ok qX5_numberOf_ok (fun _ h => absurd h List.not_mem_nil)

def tX5_valueOf : List (Nat × (Instr × Nat)) := [(0, (.iload_n 2, 1)), (1, (.iconst (-1), 1)), (2, (.if_icmp .ne 12, 3)), (5, (.aload_n 0, 1)), (6, (.getfield 9, 3)), (9, (.iload_n 1, 1)), (10, (.laload, 1)), (11, (.goto 14, 3)), (14, (.aload_n 0, 1)), (15, (.getfield 22, 3)), (18, (.iload_n 1, 1)), (19, (.bipush 16, 2)), (21, (.imul, 1)), (22, (.iload_n 2, 1)), (23, (.iadd, 1)), (24, (.laload, 1)), (25, (.lreturn, 1))]
def fX5_valueOf : List (Nat × (Nat × Nat)) := [(9, (4, 0)), (22, (4, 3))]
def qX5_valueOf : List (Nat × (Int32 ⊕ Int64)) := []
noncomputable def lX5_valueOf : List (Nat × (Nat × (Option Nat × pFN))) := []
noncomputable def kX5_valueOf : pFN := pm_met shX (some 4) tX5_valueOf fX5_valueOf qX5_valueOf lX5_valueOf 3 3
def mX5_valueOf : Room := { frames := 0, cells := 0, slots := 0, locals := 0 }
set_option maxRecDepth 100000 in
theorem tX5_valueOf_ok : ∀ q ∈ tX5_valueOf, decode cX5_valueOf q.1 = .ok q.2 ∧ pm_tok q.1 q.2.1 q.2.2 = true := by decide +kernel
set_option maxRecDepth 100000 in
theorem fX5_valueOf_ok : ∀ q ∈ fX5_valueOf, pm_Fok wsX5_valueOf yX5_valueOf.cls q.1 q.2.1 q.2.2 := List.forall_mem_cons.mpr ⟨⟨(RX5, TX5, 4), rfl, by decide, by decide +kernel, fun w h => List.mem_cons_of_mem _ (List.mem_append_right _ h)⟩, List.forall_mem_cons.mpr ⟨⟨(RX5, TX5, 4), rfl, by decide, by decide +kernel, fun w h => List.mem_cons_of_mem _ (List.mem_append_right _ h)⟩, fun _ h => absurd h List.not_mem_nil⟩⟩
set_option maxRecDepth 100000 in
theorem qX5_valueOf_ok : ∀ q ∈ qX5_valueOf, pm_Kok wsX5_valueOf yX5_valueOf.cls q.1 q.2 := fun _ h => absurd h List.not_mem_nil
set_option maxRecDepth 100000 in
theorem conX5_valueOf (l : Launch) : pm_Con l yX5_valueOf wsX5_valueOf mX5_valueOf shX 288 kX5_valueOf := pm_met_con (cc := cX5_valueOf) (by decide +kernel) rfl shX_N tX5_valueOf_ok fX5_valueOf_ok qX5_valueOf_ok (fun _ h => absurd h List.not_mem_nil)
end
section
def tX0_keep : List (Nat × (Instr × Nat)) := [(0, (.aload_n 0, 1)), (1, (.getfield 54, 3)), (4, (.bipush 12, 2)), (6, (.if_icmp .lt 4, 3)), (9, (.return_, 1)), (10, (.aload_n 0, 1)), (11, (.getfield 24, 3)), (14, (.aload_n 0, 1)), (15, (.getfield 54, 3)), (18, (.iload_n 1, 1)), (19, (.iastore, 1)), (20, (.aload_n 0, 1)), (21, (.getfield 28, 3)), (24, (.aload_n 0, 1)), (25, (.getfield 54, 3)), (28, (.iload_n 2, 1)), (29, (.iastore, 1)), (30, (.aload_n 0, 1)), (31, (.getfield 31, 3)), (34, (.aload_n 0, 1)), (35, (.getfield 54, 3)), (38, (.iload_n 3, 1)), (39, (.iastore, 1)), (40, (.aload_n 0, 1)), (41, (.getfield 21, 3)), (44, (.iload_n 1, 1)), (45, (.lload 4, 2)), (47, (.lastore, 1)), (48, (.aload_n 0, 1)), (49, (.dup, 1)), (50, (.getfield 57, 3)), (53, (.iconst 1, 1)), (54, (.iload_n 1, 1)), (55, (.ishl, 1)), (56, (.ior, 1)), (57, (.putfield 57, 3)), (60, (.aload_n 0, 1)), (61, (.dup, 1)), (62, (.getfield 54, 3)), (65, (.iconst 1, 1)), (66, (.iadd, 1)), (67, (.putfield 54, 3)), (70, (.return_, 1))]
def fX0_keep : List (Nat × (Nat × Nat)) := [(54, (0, 5)), (24, (0, 15)), (28, (0, 16)), (31, (0, 17)), (21, (0, 14)), (57, (0, 11))]
def qX0_keep : List (Nat × (Int32 ⊕ Int64)) := []
noncomputable def lX0_keep : List (Nat × (Nat × (Option Nat × pFN))) := []
noncomputable def kX0_keep : pFN := pm_met shX (some 0) tX0_keep fX0_keep qX0_keep lX0_keep 6 0
def mX0_keep : Room := { frames := 0, cells := 0, slots := 0, locals := 0 }
set_option maxRecDepth 100000 in
theorem tX0_keep_ok : ∀ q ∈ tX0_keep, decode cX0_keep q.1 = .ok q.2 ∧ pm_tok q.1 q.2.1 q.2.2 = true := by decide +kernel
set_option maxRecDepth 100000 in
theorem fX0_keep_ok : ∀ q ∈ fX0_keep, pm_Fok wsX0_keep yX0_keep.cls q.1 q.2.1 q.2.2 := List.forall_mem_cons.mpr ⟨⟨(RX0, TX0, 18), rfl, by decide, by decide +kernel, fun w h => List.mem_cons_of_mem _ (List.mem_append_right _ h)⟩, List.forall_mem_cons.mpr ⟨⟨(RX0, TX0, 18), rfl, by decide, by decide +kernel, fun w h => List.mem_cons_of_mem _ (List.mem_append_right _ h)⟩, List.forall_mem_cons.mpr ⟨⟨(RX0, TX0, 18), rfl, by decide, by decide +kernel, fun w h => List.mem_cons_of_mem _ (List.mem_append_right _ h)⟩, List.forall_mem_cons.mpr ⟨⟨(RX0, TX0, 18), rfl, by decide, by decide +kernel, fun w h => List.mem_cons_of_mem _ (List.mem_append_right _ h)⟩, List.forall_mem_cons.mpr ⟨⟨(RX0, TX0, 18), rfl, by decide, by decide +kernel, fun w h => List.mem_cons_of_mem _ (List.mem_append_right _ h)⟩, List.forall_mem_cons.mpr ⟨⟨(RX0, TX0, 18), rfl, by decide, by decide +kernel, fun w h => List.mem_cons_of_mem _ (List.mem_append_right _ h)⟩, fun _ h => absurd h List.not_mem_nil⟩⟩⟩⟩⟩⟩
set_option maxRecDepth 100000 in
theorem qX0_keep_ok : ∀ q ∈ qX0_keep, pm_Kok wsX0_keep yX0_keep.cls q.1 q.2 := fun _ h => absurd h List.not_mem_nil
set_option maxRecDepth 100000 in
theorem conX0_keep (l : Launch) : pm_Con l yX0_keep wsX0_keep mX0_keep shX 288 kX0_keep := pm_met_con (cc := cX0_keep) (by decide +kernel) rfl shX_N tX0_keep_ok fX0_keep_ok qX0_keep_ok (fun _ h => absurd h List.not_mem_nil)

def tX0_read : List (Nat × (Instr × Nat)) := [(0, (.aload_n 0, 1)), (1, (.iload_n 2, 1)), (2, (.invokevirtual 116, 3)), (5, (.ifCond .eq 17, 3)), (8, (.aload_n 0, 1)), (9, (.getfield 18, 3)), (12, (.iload_n 1, 1)), (13, (.aload_n 0, 1)), (14, (.getfield 9, 3)), (17, (.iload_n 2, 1)), (18, (.laload, 1)), (19, (.lastore, 1)), (20, (.iconst (-1), 1)), (21, (.ireturn, 1)), (22, (.aload_n 0, 1)), (23, (.getfield 57, 3)), (26, (.iconst 1, 1)), (27, (.iload_n 2, 1)), (28, (.ishl, 1)), (29, (.iand, 1)), (30, (.ifCond .ne 48, 3)), (33, (.aload_n 3, 1)), (34, (.iload_n 2, 1)), (35, (.aload_n 0, 1)), (36, (.getfield 34, 3)), (39, (.invokevirtual 120, 3)), (42, (.istore 4, 2)), (44, (.aload_n 3, 1)), (45, (.iload_n 2, 1)), (46, (.iload 4, 2)), (48, (.invokevirtual 126, 3)), (51, (.ifCond .eq 6, 3)), (54, (.iload 4, 2)), (56, (.ireturn, 1)), (57, (.aload_n 0, 1)), (58, (.iload_n 2, 1)), (59, (.iload 4, 2)), (61, (.aload_n 3, 1)), (62, (.iload_n 2, 1)), (63, (.iload 4, 2)), (65, (.invokevirtual 129, 3)), (68, (.aload_n 3, 1)), (69, (.iload_n 2, 1)), (70, (.iload 4, 2)), (72, (.invokevirtual 132, 3)), (75, (.invokevirtual 136, 3)), (78, (.aload_n 0, 1)), (79, (.getfield 18, 3)), (82, (.iload_n 1, 1)), (83, (.aload_n 0, 1)), (84, (.getfield 21, 3)), (87, (.iload_n 2, 1)), (88, (.laload, 1)), (89, (.lastore, 1)), (90, (.iconst (-1), 1)), (91, (.ireturn, 1))]
def fX0_read : List (Nat × (Nat × Nat)) := [(18, (0, 13)), (9, (0, 8)), (57, (0, 11)), (34, (0, 0)), (21, (0, 14))]
def qX0_read : List (Nat × (Int32 ⊕ Int64)) := []
noncomputable def lX0_read : List (Nat × (Nat × (Option Nat × pFN))) := [(116, (2, (some 0, kX0_hasWritten))), (120, (3, (some 4, kX5_writerBelow))), (126, (3, (some 4, kX5_isPerhaps))), (129, (3, (some 4, kX5_numberOf))), (132, (3, (some 4, kX5_valueOf))), (136, (5, (some 0, kX0_keep)))]
noncomputable def kX0_read : pFN := pm_met shX (some 0) tX0_read fX0_read qX0_read lX0_read 5 1
def mX0_read : Room := { frames := 1, cells := 0, slots := 0, locals := 25 }
set_option maxRecDepth 100000 in
theorem tX0_read_ok : ∀ q ∈ tX0_read, decode cX0_read q.1 = .ok q.2 ∧ pm_tok q.1 q.2.1 q.2.2 = true := by decide +kernel
set_option maxRecDepth 100000 in
theorem fX0_read_ok : ∀ q ∈ fX0_read, pm_Fok wsX0_read yX0_read.cls q.1 q.2.1 q.2.2 := List.forall_mem_cons.mpr ⟨⟨(RX0, TX0, 18), rfl, by decide, by decide +kernel, fun w h => List.mem_cons_of_mem _ (List.mem_append_left _ (List.mem_append_right _ h))⟩, List.forall_mem_cons.mpr ⟨⟨(RX0, TX0, 18), rfl, by decide, by decide +kernel, fun w h => List.mem_cons_of_mem _ (List.mem_append_left _ (List.mem_append_right _ h))⟩, List.forall_mem_cons.mpr ⟨⟨(RX0, TX0, 18), rfl, by decide, by decide +kernel, fun w h => List.mem_cons_of_mem _ (List.mem_append_left _ (List.mem_append_right _ h))⟩, List.forall_mem_cons.mpr ⟨⟨(RX0, TX0, 18), rfl, by decide, by decide +kernel, fun w h => List.mem_cons_of_mem _ (List.mem_append_left _ (List.mem_append_right _ h))⟩, List.forall_mem_cons.mpr ⟨⟨(RX0, TX0, 18), rfl, by decide, by decide +kernel, fun w h => List.mem_cons_of_mem _ (List.mem_append_left _ (List.mem_append_right _ h))⟩, fun _ h => absurd h List.not_mem_nil⟩⟩⟩⟩⟩
set_option maxRecDepth 100000 in
theorem qX0_read_ok : ∀ q ∈ qX0_read, pm_Kok wsX0_read yX0_read.cls q.1 q.2 := fun _ h => absurd h List.not_mem_nil
set_option maxRecDepth 100000 in
theorem conX0_read (l : Launch) : pm_Con l yX0_read wsX0_read mX0_read shX 288 kX0_read := pm_met_con (cc := cX0_read) (by decide +kernel) rfl shX_N tX0_read_ok fX0_read_ok qX0_read_ok (List.forall_mem_cons.mpr ⟨⟨yX0_hasWritten, wsX0_hasWritten, _, mX0_hasWritten, cX0_hasWritten, 2, pm_rt 2, (RX0, TX0, 18), conX0_hasWritten l, pm_met_recv, rfl, gX0_read_X0_hasWritten, rfl, rfl, rfl, by decide +kernel, by decide⟩, List.forall_mem_cons.mpr ⟨⟨yX5_writerBelow, wsX5_writerBelow, _, mX5_writerBelow, cX5_writerBelow, 4, pm_rt 1, (RX5, TX5, 4), conX5_writerBelow l, pm_met_recv, rfl, gX0_read_X5_writerBelow, rfl, rfl, rfl, by decide +kernel, by decide⟩, List.forall_mem_cons.mpr ⟨⟨yX5_isPerhaps, wsX5_isPerhaps, _, mX5_isPerhaps, cX5_isPerhaps, 3, pm_rt 2, (RX5, TX5, 4), conX5_isPerhaps l, pm_met_recv, rfl, gX0_read_X5_isPerhaps, rfl, rfl, rfl, by decide +kernel, by decide⟩, List.forall_mem_cons.mpr ⟨⟨yX5_numberOf, wsX5_numberOf, _, mX5_numberOf, cX5_numberOf, 3, pm_rt 1, (RX5, TX5, 4), conX5_numberOf l, pm_met_recv, rfl, gX0_read_X5_numberOf, rfl, rfl, rfl, by decide +kernel, by decide⟩, List.forall_mem_cons.mpr ⟨⟨yX5_valueOf, wsX5_valueOf, _, mX5_valueOf, cX5_valueOf, 3, pm_rt 3, (RX5, TX5, 4), conX5_valueOf l, pm_met_recv, rfl, gX0_read_X5_valueOf, rfl, rfl, rfl, by decide +kernel, by decide⟩, List.forall_mem_cons.mpr ⟨⟨yX0_keep, wsX0_keep, _, mX0_keep, cX0_keep, 6, pm_rt 0, (RX0, TX0, 18), conX0_keep l, pm_met_recv, rfl, gX0_read_X0_keep, rfl, rfl, rfl, by decide +kernel, by decide⟩, fun _ h => absurd h List.not_mem_nil⟩⟩⟩⟩⟩⟩)

def tX0_write : List (Nat × (Instr × Nat)) := [(0, (.aload_n 0, 1)), (1, (.getfield 9, 3)), (4, (.iload_n 1, 1)), (5, (.lload_n 2, 1)), (6, (.lastore, 1)), (7, (.aload_n 0, 1)), (8, (.dup, 1)), (9, (.getfield 60, 3)), (12, (.iconst 1, 1)), (13, (.iload_n 1, 1)), (14, (.ishl, 1)), (15, (.ior, 1)), (16, (.putfield 60, 3)), (19, (.return_, 1))]
def fX0_write : List (Nat × (Nat × Nat)) := [(9, (0, 8)), (60, (0, 12))]
def qX0_write : List (Nat × (Int32 ⊕ Int64)) := []
noncomputable def lX0_write : List (Nat × (Nat × (Option Nat × pFN))) := []
noncomputable def kX0_write : pFN := pm_met shX (some 0) tX0_write fX0_write qX0_write lX0_write 4 0
def mX0_write : Room := { frames := 0, cells := 0, slots := 0, locals := 0 }
set_option maxRecDepth 100000 in
theorem tX0_write_ok : ∀ q ∈ tX0_write, decode cX0_write q.1 = .ok q.2 ∧ pm_tok q.1 q.2.1 q.2.2 = true := by decide +kernel
set_option maxRecDepth 100000 in
theorem fX0_write_ok : ∀ q ∈ fX0_write, pm_Fok wsX0_write yX0_write.cls q.1 q.2.1 q.2.2 := List.forall_mem_cons.mpr ⟨⟨(RX0, TX0, 18), rfl, by decide, by decide +kernel, fun w h => List.mem_cons_of_mem _ (List.mem_append_right _ h)⟩, List.forall_mem_cons.mpr ⟨⟨(RX0, TX0, 18), rfl, by decide, by decide +kernel, fun w h => List.mem_cons_of_mem _ (List.mem_append_right _ h)⟩, fun _ h => absurd h List.not_mem_nil⟩⟩
set_option maxRecDepth 100000 in
theorem qX0_write_ok : ∀ q ∈ qX0_write, pm_Kok wsX0_write yX0_write.cls q.1 q.2 := fun _ h => absurd h List.not_mem_nil
set_option maxRecDepth 100000 in
theorem conX0_write (l : Launch) : pm_Con l yX0_write wsX0_write mX0_write shX 288 kX0_write := pm_met_con (cc := cX0_write) (by decide +kernel) rfl shX_N tX0_write_ok fX0_write_ok qX0_write_ok (fun _ h => absurd h List.not_mem_nil)

def tX0_raise : List (Nat × (Instr × Nat)) := [(0, (.aload_n 0, 1)), (1, (.getfield 63, 3)), (4, (.bipush 12, 2)), (6, (.if_icmp .ge 23, 3)), (9, (.aload_n 0, 1)), (10, (.getfield 15, 3)), (13, (.aload_n 0, 1)), (14, (.getfield 63, 3)), (17, (.lload_n 1, 1)), (18, (.lastore, 1)), (19, (.aload_n 0, 1)), (20, (.dup, 1)), (21, (.getfield 63, 3)), (24, (.iconst 1, 1)), (25, (.iadd, 1)), (26, (.putfield 63, 3)), (29, (.return_, 1))]
def fX0_raise : List (Nat × (Nat × Nat)) := [(63, (0, 6)), (15, (0, 9))]
def qX0_raise : List (Nat × (Int32 ⊕ Int64)) := []
noncomputable def lX0_raise : List (Nat × (Nat × (Option Nat × pFN))) := []
noncomputable def kX0_raise : pFN := pm_met shX (some 0) tX0_raise fX0_raise qX0_raise lX0_raise 3 0
def mX0_raise : Room := { frames := 0, cells := 0, slots := 0, locals := 0 }
set_option maxRecDepth 100000 in
theorem tX0_raise_ok : ∀ q ∈ tX0_raise, decode cX0_raise q.1 = .ok q.2 ∧ pm_tok q.1 q.2.1 q.2.2 = true := by decide +kernel
set_option maxRecDepth 100000 in
theorem fX0_raise_ok : ∀ q ∈ fX0_raise, pm_Fok wsX0_raise yX0_raise.cls q.1 q.2.1 q.2.2 := List.forall_mem_cons.mpr ⟨⟨(RX0, TX0, 18), rfl, by decide, by decide +kernel, fun w h => List.mem_cons_of_mem _ (List.mem_append_right _ h)⟩, List.forall_mem_cons.mpr ⟨⟨(RX0, TX0, 18), rfl, by decide, by decide +kernel, fun w h => List.mem_cons_of_mem _ (List.mem_append_right _ h)⟩, fun _ h => absurd h List.not_mem_nil⟩⟩
set_option maxRecDepth 100000 in
theorem qX0_raise_ok : ∀ q ∈ qX0_raise, pm_Kok wsX0_raise yX0_raise.cls q.1 q.2 := fun _ h => absurd h List.not_mem_nil
set_option maxRecDepth 100000 in
theorem conX0_raise (l : Launch) : pm_Con l yX0_raise wsX0_raise mX0_raise shX 288 kX0_raise := pm_met_con (cc := cX0_raise) (by decide +kernel) rfl shX_N tX0_raise_ok fX0_raise_ok qX0_raise_ok (fun _ h => absurd h List.not_mem_nil)

def tX0_fail : List (Nat × (Instr × Nat)) := [(0, (.aload_n 0, 1)), (1, (.iconst 1, 1)), (2, (.putfield 50, 3)), (5, (.aload_n 0, 1)), (6, (.iconst 0, 1)), (7, (.putfield 60, 3)), (10, (.aload_n 0, 1)), (11, (.iconst 0, 1)), (12, (.putfield 63, 3)), (15, (.return_, 1))]
def fX0_fail : List (Nat × (Nat × Nat)) := [(50, (0, 4)), (60, (0, 12)), (63, (0, 6))]
def qX0_fail : List (Nat × (Int32 ⊕ Int64)) := []
noncomputable def lX0_fail : List (Nat × (Nat × (Option Nat × pFN))) := []
noncomputable def kX0_fail : pFN := pm_met shX (some 0) tX0_fail fX0_fail qX0_fail lX0_fail 1 0
def mX0_fail : Room := { frames := 0, cells := 0, slots := 0, locals := 0 }
set_option maxRecDepth 100000 in
theorem tX0_fail_ok : ∀ q ∈ tX0_fail, decode cX0_fail q.1 = .ok q.2 ∧ pm_tok q.1 q.2.1 q.2.2 = true := by decide +kernel
set_option maxRecDepth 100000 in
theorem fX0_fail_ok : ∀ q ∈ fX0_fail, pm_Fok wsX0_fail yX0_fail.cls q.1 q.2.1 q.2.2 := List.forall_mem_cons.mpr ⟨⟨(RX0, TX0, 18), rfl, by decide, by decide +kernel, fun w h => List.mem_cons_of_mem _ (List.mem_append_right _ h)⟩, List.forall_mem_cons.mpr ⟨⟨(RX0, TX0, 18), rfl, by decide, by decide +kernel, fun w h => List.mem_cons_of_mem _ (List.mem_append_right _ h)⟩, List.forall_mem_cons.mpr ⟨⟨(RX0, TX0, 18), rfl, by decide, by decide +kernel, fun w h => List.mem_cons_of_mem _ (List.mem_append_right _ h)⟩, fun _ h => absurd h List.not_mem_nil⟩⟩⟩
set_option maxRecDepth 100000 in
theorem qX0_fail_ok : ∀ q ∈ qX0_fail, pm_Kok wsX0_fail yX0_fail.cls q.1 q.2 := fun _ h => absurd h List.not_mem_nil
set_option maxRecDepth 100000 in
theorem conX0_fail (l : Launch) : pm_Con l yX0_fail wsX0_fail mX0_fail shX 288 kX0_fail := pm_met_con (cc := cX0_fail) (by decide +kernel) rfl shX_N tX0_fail_ok fX0_fail_ok qX0_fail_ok (fun _ h => absurd h List.not_mem_nil)

def tX0_perform : List (Nat × (Instr × Nat)) := [(0, (.iload_n 1, 1)), (1, (.tableswitch 176 0 7 #[47, 176, 58, 78, 96, 114, 132, 163], 47)), (48, (.aload_n 0, 1)), (49, (.getfield 18, 3)), (52, (.iload_n 2, 1)), (53, (.lload 4, 2)), (55, (.lastore, 1)), (56, (.goto 136, 3)), (59, (.aload_n 0, 1)), (60, (.aload_n 0, 1)), (61, (.iload_n 3, 1)), (62, (.lload 4, 2)), (64, (.invokevirtual 102, 3)), (67, (.aload_n 0, 1)), (68, (.getfield 18, 3)), (71, (.iload_n 2, 1)), (72, (.laload, 1)), (73, (.invokevirtual 139, 3)), (76, (.goto 116, 3)), (79, (.aload_n 0, 1)), (80, (.getfield 18, 3)), (83, (.iload_n 2, 1)), (84, (.dup2, 1)), (85, (.laload, 1)), (86, (.aload_n 0, 1)), (87, (.getfield 18, 3)), (90, (.iload_n 3, 1)), (91, (.laload, 1)), (92, (.ladd, 1)), (93, (.lastore, 1)), (94, (.goto 98, 3)), (97, (.aload_n 0, 1)), (98, (.getfield 18, 3)), (101, (.iload_n 2, 1)), (102, (.dup2, 1)), (103, (.laload, 1)), (104, (.aload_n 0, 1)), (105, (.getfield 18, 3)), (108, (.iload_n 3, 1)), (109, (.laload, 1)), (110, (.lsub, 1)), (111, (.lastore, 1)), (112, (.goto 80, 3)), (115, (.aload_n 0, 1)), (116, (.getfield 18, 3)), (119, (.iload_n 2, 1)), (120, (.dup2, 1)), (121, (.laload, 1)), (122, (.aload_n 0, 1)), (123, (.getfield 18, 3)), (126, (.iload_n 3, 1)), (127, (.laload, 1)), (128, (.lmul, 1)), (129, (.lastore, 1)), (130, (.goto 62, 3)), (133, (.aload_n 0, 1)), (134, (.getfield 18, 3)), (137, (.iload_n 2, 1)), (138, (.laload, 1)), (139, (.aload_n 0, 1)), (140, (.getfield 18, 3)), (143, (.iload_n 3, 1)), (144, (.laload, 1)), (145, (.lcmp, 1)), (146, (.ifCond .ge 46, 3)), (149, (.aload_n 0, 1)), (150, (.dup, 1)), (151, (.getfield 44, 3)), (154, (.lload 4, 2)), (156, (.l2i, 1)), (157, (.iadd, 1)), (158, (.putfield 44, 3)), (161, (.goto 31, 3)), (164, (.aload_n 0, 1)), (165, (.aload_n 0, 1)), (166, (.getfield 18, 3)), (169, (.iload_n 2, 1)), (170, (.laload, 1)), (171, (.invokevirtual 143, 3)), (174, (.goto 18, 3)), (177, (.aload_n 0, 1)), (178, (.getfield 18, 3)), (181, (.iload_n 2, 1)), (182, (.laload, 1)), (183, (.lconst 0, 1)), (184, (.lcmp, 1)), (185, (.ifCond .ge 7, 3)), (188, (.aload_n 0, 1)), (189, (.invokevirtual 147, 3)), (192, (.return_, 1))]
def fX0_perform : List (Nat × (Nat × Nat)) := [(18, (0, 13)), (44, (0, 10))]
def qX0_perform : List (Nat × (Int32 ⊕ Int64)) := []
noncomputable def lX0_perform : List (Nat × (Nat × (Option Nat × pFN))) := [(102, (3, (some 0, kX0_leafAt))), (139, (3, (some 0, kX0_write))), (143, (2, (some 0, kX0_raise))), (147, (1, (some 0, kX0_fail)))]
noncomputable def kX0_perform : pFN := pm_met shX (some 0) tX0_perform fX0_perform qX0_perform lX0_perform 6 0
def mX0_perform : Room := { frames := 1, cells := 0, slots := 0, locals := 23 }
set_option maxRecDepth 100000 in
theorem tX0_perform_ok : ∀ q ∈ tX0_perform, decode cX0_perform q.1 = .ok q.2 ∧ pm_tok q.1 q.2.1 q.2.2 = true := by decide +kernel
set_option maxRecDepth 100000 in
theorem fX0_perform_ok : ∀ q ∈ fX0_perform, pm_Fok wsX0_perform yX0_perform.cls q.1 q.2.1 q.2.2 := List.forall_mem_cons.mpr ⟨⟨(RX0, TX0, 18), rfl, by decide, by decide +kernel, fun w h => List.mem_cons_of_mem _ (List.mem_append_right _ h)⟩, List.forall_mem_cons.mpr ⟨⟨(RX0, TX0, 18), rfl, by decide, by decide +kernel, fun w h => List.mem_cons_of_mem _ (List.mem_append_right _ h)⟩, fun _ h => absurd h List.not_mem_nil⟩⟩
set_option maxRecDepth 100000 in
theorem qX0_perform_ok : ∀ q ∈ qX0_perform, pm_Kok wsX0_perform yX0_perform.cls q.1 q.2 := fun _ h => absurd h List.not_mem_nil
set_option maxRecDepth 100000 in
theorem conX0_perform (l : Launch) : pm_Con l yX0_perform wsX0_perform mX0_perform shX 288 kX0_perform := pm_met_con (cc := cX0_perform) (by decide +kernel) rfl shX_N tX0_perform_ok fX0_perform_ok qX0_perform_ok (List.forall_mem_cons.mpr ⟨⟨yX0_leafAt, wsX0_leafAt, _, mX0_leafAt, cX0_leafAt, 4, pm_rt 1, (RX0, TX0, 18), conX0_leafAt l, pm_met_recv, rfl, gX0_perform_X0_leafAt, rfl, rfl, rfl, by decide +kernel, by decide⟩, List.forall_mem_cons.mpr ⟨⟨yX0_write, wsX0_write, _, mX0_write, cX0_write, 4, pm_rt 0, (RX0, TX0, 18), conX0_write l, pm_met_recv, rfl, gX0_perform_X0_write, rfl, rfl, rfl, by decide +kernel, by decide⟩, List.forall_mem_cons.mpr ⟨⟨yX0_raise, wsX0_raise, _, mX0_raise, cX0_raise, 3, pm_rt 0, (RX0, TX0, 18), conX0_raise l, pm_met_recv, rfl, gX0_perform_X0_raise, rfl, rfl, rfl, by decide +kernel, by decide⟩, List.forall_mem_cons.mpr ⟨⟨yX0_fail, wsX0_fail, _, mX0_fail, cX0_fail, 1, pm_rt 0, (RX0, TX0, 18), conX0_fail l, pm_met_recv, rfl, gX0_perform_X0_fail, rfl, rfl, rfl, by decide +kernel, by decide⟩, fun _ h => absurd h List.not_mem_nil⟩⟩⟩⟩)

def tX0_doNext : List (Nat × (Instr × Nat)) := [(0, (.aload_n 0, 1)), (1, (.aload_n 1, 1)), (2, (.invokevirtual 84, 3)), (5, (.ifCond .eq 5, 3)), (8, (.iconst (-1), 1)), (9, (.ireturn, 1)), (10, (.aload_n 0, 1)), (11, (.getfield 34, 3)), (14, (.bipush 12, 2)), (16, (.imul, 1)), (17, (.aload_n 0, 1)), (18, (.getfield 44, 3)), (21, (.iadd, 1)), (22, (.istore_n 3, 1)), (23, (.aload_n 1, 1)), (24, (.getfield 88, 3)), (27, (.iload_n 3, 1)), (28, (.iaload, 1)), (29, (.istore 4, 2)), (31, (.aload_n 1, 1)), (32, (.getfield 91, 3)), (35, (.iload_n 3, 1)), (36, (.iaload, 1)), (37, (.istore 5, 2)), (39, (.aload_n 1, 1)), (40, (.getfield 94, 3)), (43, (.iload_n 3, 1)), (44, (.iaload, 1)), (45, (.istore 6, 2)), (47, (.aload_n 1, 1)), (48, (.getfield 97, 3)), (51, (.iload_n 3, 1)), (52, (.laload, 1)), (53, (.lstore 7, 2)), (55, (.iload 4, 2)), (57, (.iconst 1, 1)), (58, (.if_icmp .ne 32, 3)), (61, (.aload_n 0, 1)), (62, (.iload 5, 2)), (64, (.aload_n 0, 1)), (65, (.iload 6, 2)), (67, (.lload 7, 2)), (69, (.invokevirtual 102, 3)), (72, (.aload_n 2, 1)), (73, (.invokevirtual 106, 3)), (76, (.istore 9, 2)), (78, (.iload 9, 2)), (80, (.iconst (-1), 1)), (81, (.if_icmp .eq 6, 3)), (84, (.iload 9, 2)), (86, (.ireturn, 1)), (87, (.goto 15, 3)), (90, (.aload_n 0, 1)), (91, (.iload 4, 2)), (93, (.iload 5, 2)), (95, (.iload 6, 2)), (97, (.lload 7, 2)), (99, (.invokevirtual 110, 3)), (102, (.aload_n 0, 1)), (103, (.dup, 1)), (104, (.getfield 44, 3)), (107, (.iconst 1, 1)), (108, (.iadd, 1)), (109, (.putfield 44, 3)), (112, (.aload_n 0, 1)), (113, (.dup, 1)), (114, (.getfield 47, 3)), (117, (.iconst 1, 1)), (118, (.iadd, 1)), (119, (.putfield 47, 3)), (122, (.aload_n 0, 1)), (123, (.dup, 1)), (124, (.getfield 41, 3)), (127, (.iconst 1, 1)), (128, (.iadd, 1)), (129, (.putfield 41, 3)), (132, (.iconst (-1), 1)), (133, (.ireturn, 1))]
def fX0_doNext : List (Nat × (Nat × Nat)) := [(34, (0, 0)), (44, (0, 10)), (88, (2, 2)), (91, (2, 3)), (94, (2, 4)), (97, (2, 5)), (47, (0, 3)), (41, (0, 2))]
def qX0_doNext : List (Nat × (Int32 ⊕ Int64)) := []
noncomputable def lX0_doNext : List (Nat × (Nat × (Option Nat × pFN))) := [(84, (2, (some 0, kX0_isOver))), (102, (3, (some 0, kX0_leafAt))), (106, (4, (some 0, kX0_read))), (110, (5, (some 0, kX0_perform)))]
noncomputable def kX0_doNext : pFN := pm_met shX (some 0) tX0_doNext fX0_doNext qX0_doNext lX0_doNext 10 1
def mX0_doNext : Room := { frames := 2, cells := 0, slots := 0, locals := 49 }
set_option maxRecDepth 100000 in
theorem tX0_doNext_ok : ∀ q ∈ tX0_doNext, decode cX0_doNext q.1 = .ok q.2 ∧ pm_tok q.1 q.2.1 q.2.2 = true := by decide +kernel
set_option maxRecDepth 100000 in
theorem fX0_doNext_ok : ∀ q ∈ fX0_doNext, pm_Fok wsX0_doNext yX0_doNext.cls q.1 q.2.1 q.2.2 := List.forall_mem_cons.mpr ⟨⟨(RX0, TX0, 18), rfl, by decide, by decide +kernel, fun w h => List.mem_cons_of_mem _ (List.mem_append_left _ (List.mem_append_left _ (List.mem_append_right _ h)))⟩, List.forall_mem_cons.mpr ⟨⟨(RX0, TX0, 18), rfl, by decide, by decide +kernel, fun w h => List.mem_cons_of_mem _ (List.mem_append_left _ (List.mem_append_left _ (List.mem_append_right _ h)))⟩, List.forall_mem_cons.mpr ⟨⟨(RX2, TX2, 6), rfl, by decide, by decide +kernel, fun w h => List.mem_cons_of_mem _ (List.mem_append_left _ (List.mem_append_right _ h))⟩, List.forall_mem_cons.mpr ⟨⟨(RX2, TX2, 6), rfl, by decide, by decide +kernel, fun w h => List.mem_cons_of_mem _ (List.mem_append_left _ (List.mem_append_right _ h))⟩, List.forall_mem_cons.mpr ⟨⟨(RX2, TX2, 6), rfl, by decide, by decide +kernel, fun w h => List.mem_cons_of_mem _ (List.mem_append_left _ (List.mem_append_right _ h))⟩, List.forall_mem_cons.mpr ⟨⟨(RX2, TX2, 6), rfl, by decide, by decide +kernel, fun w h => List.mem_cons_of_mem _ (List.mem_append_left _ (List.mem_append_right _ h))⟩, List.forall_mem_cons.mpr ⟨⟨(RX0, TX0, 18), rfl, by decide, by decide +kernel, fun w h => List.mem_cons_of_mem _ (List.mem_append_left _ (List.mem_append_left _ (List.mem_append_right _ h)))⟩, List.forall_mem_cons.mpr ⟨⟨(RX0, TX0, 18), rfl, by decide, by decide +kernel, fun w h => List.mem_cons_of_mem _ (List.mem_append_left _ (List.mem_append_left _ (List.mem_append_right _ h)))⟩, fun _ h => absurd h List.not_mem_nil⟩⟩⟩⟩⟩⟩⟩⟩
set_option maxRecDepth 100000 in
theorem qX0_doNext_ok : ∀ q ∈ qX0_doNext, pm_Kok wsX0_doNext yX0_doNext.cls q.1 q.2 := fun _ h => absurd h List.not_mem_nil
set_option maxRecDepth 100000 in
theorem conX0_doNext (l : Launch) : pm_Con l yX0_doNext wsX0_doNext mX0_doNext shX 288 kX0_doNext := pm_met_con (cc := cX0_doNext) (by decide +kernel) rfl shX_N tX0_doNext_ok fX0_doNext_ok qX0_doNext_ok (List.forall_mem_cons.mpr ⟨⟨yX0_isOver, wsX0_isOver, _, mX0_isOver, cX0_isOver, 2, pm_rt 2, (RX0, TX0, 18), conX0_isOver l, pm_met_recv, rfl, gX0_doNext_X0_isOver, rfl, rfl, rfl, by decide +kernel, by decide⟩, List.forall_mem_cons.mpr ⟨⟨yX0_leafAt, wsX0_leafAt, _, mX0_leafAt, cX0_leafAt, 4, pm_rt 1, (RX0, TX0, 18), conX0_leafAt l, pm_met_recv, rfl, gX0_doNext_X0_leafAt, rfl, rfl, rfl, by decide +kernel, by decide⟩, List.forall_mem_cons.mpr ⟨⟨yX0_read, wsX0_read, _, mX0_read, cX0_read, 5, pm_rt 1, (RX0, TX0, 18), conX0_read l, pm_met_recv, rfl, gX0_doNext_X0_read, rfl, rfl, rfl, by decide +kernel, by decide⟩, List.forall_mem_cons.mpr ⟨⟨yX0_perform, wsX0_perform, _, mX0_perform, cX0_perform, 6, pm_rt 0, (RX0, TX0, 18), conX0_perform l, pm_met_recv, rfl, gX0_doNext_X0_perform, rfl, rfl, rfl, by decide +kernel, by decide⟩, fun _ h => absurd h List.not_mem_nil⟩⟩⟩⟩)

def tX0_firstChanged : List (Nat × (Instr × Nat)) := [(0, (.iconst 0, 1)), (1, (.istore_n 2, 1)), (2, (.iload_n 2, 1)), (3, (.aload_n 0, 1)), (4, (.getfield 54, 3)), (7, (.if_icmp .ge 66, 3)), (10, (.aload_n 0, 1)), (11, (.getfield 24, 3)), (14, (.iload_n 2, 1)), (15, (.iaload, 1)), (16, (.istore_n 3, 1)), (17, (.aload_n 1, 1)), (18, (.iload_n 3, 1)), (19, (.aload_n 0, 1)), (20, (.getfield 34, 3)), (23, (.invokevirtual 120, 3)), (26, (.istore 4, 2)), (28, (.iload 4, 2)), (30, (.aload_n 0, 1)), (31, (.getfield 28, 3)), (34, (.iload_n 2, 1)), (35, (.iaload, 1)), (36, (.if_icmp .ne 29, 3)), (39, (.aload_n 1, 1)), (40, (.iload_n 3, 1)), (41, (.iload 4, 2)), (43, (.invokevirtual 126, 3)), (46, (.ifCond .ne 19, 3)), (49, (.aload_n 1, 1)), (50, (.iload_n 3, 1)), (51, (.iload 4, 2)), (53, (.invokevirtual 129, 3)), (56, (.aload_n 0, 1)), (57, (.getfield 31, 3)), (60, (.iload_n 2, 1)), (61, (.iaload, 1)), (62, (.if_icmp .eq 5, 3)), (65, (.iload_n 3, 1)), (66, (.ireturn, 1)), (67, (.iinc 2 1, 3)), (70, (.goto (-68), 3)), (73, (.iconst (-1), 1)), (74, (.ireturn, 1))]
def fX0_firstChanged : List (Nat × (Nat × Nat)) := [(54, (0, 5)), (24, (0, 15)), (34, (0, 0)), (28, (0, 16)), (31, (0, 17))]
def qX0_firstChanged : List (Nat × (Int32 ⊕ Int64)) := []
noncomputable def lX0_firstChanged : List (Nat × (Nat × (Option Nat × pFN))) := [(120, (3, (some 4, kX5_writerBelow))), (126, (3, (some 4, kX5_isPerhaps))), (129, (3, (some 4, kX5_numberOf)))]
noncomputable def kX0_firstChanged : pFN := pm_met shX (some 0) tX0_firstChanged fX0_firstChanged qX0_firstChanged lX0_firstChanged 5 1
def mX0_firstChanged : Room := { frames := 1, cells := 0, slots := 0, locals := 23 }
set_option maxRecDepth 100000 in
theorem tX0_firstChanged_ok : ∀ q ∈ tX0_firstChanged, decode cX0_firstChanged q.1 = .ok q.2 ∧ pm_tok q.1 q.2.1 q.2.2 = true := by decide +kernel
set_option maxRecDepth 100000 in
theorem fX0_firstChanged_ok : ∀ q ∈ fX0_firstChanged, pm_Fok wsX0_firstChanged yX0_firstChanged.cls q.1 q.2.1 q.2.2 := List.forall_mem_cons.mpr ⟨⟨(RX0, TX0, 18), rfl, by decide, by decide +kernel, fun w h => List.mem_cons_of_mem _ (List.mem_append_left _ (List.mem_append_right _ h))⟩, List.forall_mem_cons.mpr ⟨⟨(RX0, TX0, 18), rfl, by decide, by decide +kernel, fun w h => List.mem_cons_of_mem _ (List.mem_append_left _ (List.mem_append_right _ h))⟩, List.forall_mem_cons.mpr ⟨⟨(RX0, TX0, 18), rfl, by decide, by decide +kernel, fun w h => List.mem_cons_of_mem _ (List.mem_append_left _ (List.mem_append_right _ h))⟩, List.forall_mem_cons.mpr ⟨⟨(RX0, TX0, 18), rfl, by decide, by decide +kernel, fun w h => List.mem_cons_of_mem _ (List.mem_append_left _ (List.mem_append_right _ h))⟩, List.forall_mem_cons.mpr ⟨⟨(RX0, TX0, 18), rfl, by decide, by decide +kernel, fun w h => List.mem_cons_of_mem _ (List.mem_append_left _ (List.mem_append_right _ h))⟩, fun _ h => absurd h List.not_mem_nil⟩⟩⟩⟩⟩
set_option maxRecDepth 100000 in
theorem qX0_firstChanged_ok : ∀ q ∈ qX0_firstChanged, pm_Kok wsX0_firstChanged yX0_firstChanged.cls q.1 q.2 := fun _ h => absurd h List.not_mem_nil
set_option maxRecDepth 100000 in
theorem conX0_firstChanged (l : Launch) : pm_Con l yX0_firstChanged wsX0_firstChanged mX0_firstChanged shX 288 kX0_firstChanged := pm_met_con (cc := cX0_firstChanged) (by decide +kernel) rfl shX_N tX0_firstChanged_ok fX0_firstChanged_ok qX0_firstChanged_ok (List.forall_mem_cons.mpr ⟨⟨yX5_writerBelow, wsX5_writerBelow, _, mX5_writerBelow, cX5_writerBelow, 4, pm_rt 1, (RX5, TX5, 4), conX5_writerBelow l, pm_met_recv, rfl, gX0_firstChanged_X5_writerBelow, rfl, rfl, rfl, by decide +kernel, by decide⟩, List.forall_mem_cons.mpr ⟨⟨yX5_isPerhaps, wsX5_isPerhaps, _, mX5_isPerhaps, cX5_isPerhaps, 3, pm_rt 2, (RX5, TX5, 4), conX5_isPerhaps l, pm_met_recv, rfl, gX0_firstChanged_X5_isPerhaps, rfl, rfl, rfl, by decide +kernel, by decide⟩, List.forall_mem_cons.mpr ⟨⟨yX5_numberOf, wsX5_numberOf, _, mX5_numberOf, cX5_numberOf, 3, pm_rt 1, (RX5, TX5, 4), conX5_numberOf l, pm_met_recv, rfl, gX0_firstChanged_X5_numberOf, rfl, rfl, rfl, by decide +kernel, by decide⟩, fun _ h => absurd h List.not_mem_nil⟩⟩⟩)

def tJ7_fill_53178 : List (Nat × (Instr × Nat)) := [(0, (.iconst 0, 1)), (1, (.istore_n 2, 1)), (2, (.aload_n 0, 1)), (3, (.arraylength, 1)), (4, (.istore_n 3, 1)), (5, (.iload_n 2, 1)), (6, (.iload_n 3, 1)), (7, (.if_icmp .ge 13, 3)), (10, (.aload_n 0, 1)), (11, (.iload_n 2, 1)), (12, (.iload_n 1, 1)), (13, (.iastore, 1)), (14, (.iinc 2 1, 3)), (17, (.goto (-12), 3)), (20, (.return_, 1))]
def fJ7_fill_53178 : List (Nat × (Nat × Nat)) := []
def qJ7_fill_53178 : List (Nat × (Int32 ⊕ Int64)) := []
noncomputable def lJ7_fill_53178 : List (Nat × (Nat × (Option Nat × pFN))) := []
noncomputable def kJ7_fill_53178 : pFN := pm_met shX (none) tJ7_fill_53178 fJ7_fill_53178 qJ7_fill_53178 lJ7_fill_53178 4 0
def mJ7_fill_53178 : Room := { frames := 0, cells := 0, slots := 0, locals := 0 }
set_option maxRecDepth 100000 in
theorem tJ7_fill_53178_ok : ∀ q ∈ tJ7_fill_53178, decode cJ7_fill_53178 q.1 = .ok q.2 ∧ pm_tok q.1 q.2.1 q.2.2 = true := by decide +kernel
set_option maxRecDepth 100000 in
theorem fJ7_fill_53178_ok : ∀ q ∈ fJ7_fill_53178, pm_Fok wsJ7_fill_53178 yJ7_fill_53178.cls q.1 q.2.1 q.2.2 := fun _ h => absurd h List.not_mem_nil
set_option maxRecDepth 100000 in
theorem qJ7_fill_53178_ok : ∀ q ∈ qJ7_fill_53178, pm_Kok wsJ7_fill_53178 yJ7_fill_53178.cls q.1 q.2 := fun _ h => absurd h List.not_mem_nil
set_option maxRecDepth 100000 in
theorem conJ7_fill_53178 (l : Launch) : pm_Con l yJ7_fill_53178 wsJ7_fill_53178 mJ7_fill_53178 shX 288 kJ7_fill_53178 := pm_met_con (cc := cJ7_fill_53178) (by decide +kernel) rfl shX_N tJ7_fill_53178_ok fJ7_fill_53178_ok qJ7_fill_53178_ok (fun _ h => absurd h List.not_mem_nil)

def tX5_open : List (Nat × (Instr × Nat)) := [(0, (.aload_n 1, 1)), (1, (.iconst 0, 1)), (2, (.aload_n 0, 1)), (3, (.getfield 9, 3)), (6, (.iconst 0, 1)), (7, (.bipush 32, 2)), (9, (.invokestatic 25, 3)), (12, (.aload_n 0, 1)), (13, (.getfield 15, 3)), (16, (.iconst 0, 1)), (17, (.invokestatic 31, 3)), (20, (.return_, 1))]
def fX5_open : List (Nat × (Nat × Nat)) := [(9, (4, 0)), (15, (4, 1))]
def qX5_open : List (Nat × (Int32 ⊕ Int64)) := []
noncomputable def lX5_open : List (Nat × (Nat × (Option Nat × pFN))) := [(25, (5, (none, pm_cpy shX))), (31, (2, (none, kJ7_fill_53178)))]
noncomputable def kX5_open : pFN := pm_met shX (some 4) tX5_open fX5_open qX5_open lX5_open 2 0
def mX5_open : Room := { frames := 1, cells := 0, slots := 0, locals := 30 }
set_option maxRecDepth 100000 in
theorem tX5_open_ok : ∀ q ∈ tX5_open, decode cX5_open q.1 = .ok q.2 ∧ pm_tok q.1 q.2.1 q.2.2 = true := by decide +kernel
set_option maxRecDepth 100000 in
theorem fX5_open_ok : ∀ q ∈ fX5_open, pm_Fok wsX5_open yX5_open.cls q.1 q.2.1 q.2.2 := List.forall_mem_cons.mpr ⟨⟨(RX5, TX5, 4), rfl, by decide, by decide +kernel, fun w h => List.mem_cons_of_mem _ (List.mem_append_right _ h)⟩, List.forall_mem_cons.mpr ⟨⟨(RX5, TX5, 4), rfl, by decide, by decide +kernel, fun w h => List.mem_cons_of_mem _ (List.mem_append_right _ h)⟩, fun _ h => absurd h List.not_mem_nil⟩⟩
set_option maxRecDepth 100000 in
theorem qX5_open_ok : ∀ q ∈ qX5_open, pm_Kok wsX5_open yX5_open.cls q.1 q.2 := fun _ h => absurd h List.not_mem_nil
set_option maxRecDepth 100000 in
theorem conX5_open (l : Launch) : pm_Con l yX5_open wsX5_open mX5_open shX 288 kX5_open := pm_met_con (cc := cX5_open) (by decide +kernel) rfl shX_N tX5_open_ok fX5_open_ok qX5_open_ok (List.forall_mem_cons.mpr ⟨Or.inr (Or.inl ⟨rfl, rfl, by decide +kernel, by decide +kernel, by decide +kernel, by decide +kernel, by decide, by decide⟩), List.forall_mem_cons.mpr ⟨Or.inl ⟨yJ7_fill_53178, wsJ7_fill_53178, _, mJ7_fill_53178, cJ7_fill_53178, 4, pm_rt 0, conJ7_fill_53178 l, gX5_open_J7_fill_53178, rfl, rfl, rfl, by decide +kernel, by decide⟩, fun _ h => absurd h List.not_mem_nil⟩⟩)

def tX1_open : List (Nat × (Instr × Nat)) := [(0, (.aload_n 0, 1)), (1, (.aload_n 1, 1)), (2, (.getfield 27, 3)), (5, (.putfield 33, 3)), (8, (.aload_n 0, 1)), (9, (.getfield 12, 3)), (12, (.aload_n 2, 1)), (13, (.invokevirtual 34, 3)), (16, (.iconst 0, 1)), (17, (.istore_n 3, 1)), (18, (.iload_n 3, 1)), (19, (.bipush 16, 2)), (21, (.if_icmp .ge 18, 3)), (24, (.aload_n 0, 1)), (25, (.getfield 20, 3)), (28, (.iload_n 3, 1)), (29, (.aaload, 1)), (30, (.invokevirtual 38, 3)), (33, (.iinc 3 1, 3)), (36, (.goto (-18), 3)), (39, (.return_, 1))]
def fX1_open : List (Nat × (Nat × Nat)) := [(27, (2, 0)), (33, (1, 2)), (12, (1, 0)), (20, (1, 1))]
def qX1_open : List (Nat × (Int32 ⊕ Int64)) := []
noncomputable def lX1_open : List (Nat × (Nat × (Option Nat × pFN))) := [(34, (2, (some 4, kX5_open))), (38, (1, (some 0, kX0_open)))]
noncomputable def kX1_open : pFN := pm_met shX (some 1) tX1_open fX1_open qX1_open lX1_open 4 0
def mX1_open : Room := { frames := 2, cells := 0, slots := 0, locals := 51 }
set_option maxRecDepth 100000 in
theorem tX1_open_ok : ∀ q ∈ tX1_open, decode cX1_open q.1 = .ok q.2 ∧ pm_tok q.1 q.2.1 q.2.2 = true := by decide +kernel
set_option maxRecDepth 100000 in
theorem fX1_open_ok : ∀ q ∈ fX1_open, pm_Fok wsX1_open yX1_open.cls q.1 q.2.1 q.2.2 := List.forall_mem_cons.mpr ⟨⟨(RX2, TX2, 6), rfl, by decide, by decide +kernel, fun w h => List.mem_cons_of_mem _ (List.mem_append_left _ (List.mem_append_left _ (List.mem_append_left _ (List.mem_append_right _ h))))⟩, List.forall_mem_cons.mpr ⟨⟨(RX1, TX1, 3), rfl, by decide, by decide +kernel, fun w h => List.mem_cons_of_mem _ (List.mem_append_left _ (List.mem_append_left _ (List.mem_append_right _ h)))⟩, List.forall_mem_cons.mpr ⟨⟨(RX1, TX1, 3), rfl, by decide, by decide +kernel, fun w h => List.mem_cons_of_mem _ (List.mem_append_left _ (List.mem_append_left _ (List.mem_append_right _ h)))⟩, List.forall_mem_cons.mpr ⟨⟨(RX1, TX1, 3), rfl, by decide, by decide +kernel, fun w h => List.mem_cons_of_mem _ (List.mem_append_left _ (List.mem_append_left _ (List.mem_append_right _ h)))⟩, fun _ h => absurd h List.not_mem_nil⟩⟩⟩⟩
set_option maxRecDepth 100000 in
theorem qX1_open_ok : ∀ q ∈ qX1_open, pm_Kok wsX1_open yX1_open.cls q.1 q.2 := fun _ h => absurd h List.not_mem_nil
set_option maxRecDepth 100000 in
theorem conX1_open (l : Launch) : pm_Con l yX1_open wsX1_open mX1_open shX 288 kX1_open := pm_met_con (cc := cX1_open) (by decide +kernel) rfl shX_N tX1_open_ok fX1_open_ok qX1_open_ok (List.forall_mem_cons.mpr ⟨⟨yX5_open, wsX5_open, _, mX5_open, cX5_open, 2, pm_rt 0, (RX5, TX5, 4), conX5_open l, pm_met_recv, rfl, gX1_open_X5_open, rfl, rfl, rfl, by decide +kernel, by decide⟩, List.forall_mem_cons.mpr ⟨⟨yX0_open, wsX0_open, _, mX0_open, cX0_open, 1, pm_rt 0, (RX0, TX0, 18), conX0_open l, pm_met_recv, rfl, gX1_open_X0_open, rfl, rfl, rfl, by decide +kernel, by decide⟩, fun _ h => absurd h List.not_mem_nil⟩⟩)

def tX5_publish : List (Nat × (Instr × Nat)) := [(0, (.iconst 0, 1)), (1, (.istore_n 3, 1)), (2, (.iconst 0, 1)), (3, (.istore 4, 2)), (5, (.iload 4, 2)), (7, (.bipush 32, 2)), (9, (.if_icmp .ge 91, 3)), (12, (.iload 4, 2)), (14, (.bipush 16, 2)), (16, (.imul, 1)), (17, (.aload_n 1, 1)), (18, (.getfield 45, 3)), (21, (.iadd, 1)), (22, (.istore 5, 2)), (24, (.aload_n 1, 1)), (25, (.iload 4, 2)), (27, (.invokevirtual 51, 3)), (30, (.ifCond .eq 56, 3)), (33, (.iload_n 3, 1)), (34, (.ifCond .ne 13, 3)), (37, (.aload_n 0, 1)), (38, (.getfield 15, 3)), (41, (.iload 5, 2)), (43, (.iaload, 1)), (44, (.ifCond .ne 7, 3)), (47, (.iconst 1, 1)), (48, (.goto 4, 3)), (51, (.iconst 0, 1)), (52, (.istore_n 3, 1)), (53, (.aload_n 0, 1)), (54, (.getfield 15, 3)), (57, (.iload 5, 2)), (59, (.iconst 1, 1)), (60, (.iastore, 1)), (61, (.aload_n 0, 1)), (62, (.getfield 19, 3)), (65, (.iload 5, 2)), (67, (.iload_n 2, 1)), (68, (.iastore, 1)), (69, (.aload_n 0, 1)), (70, (.getfield 22, 3)), (73, (.iload 5, 2)), (75, (.aload_n 1, 1)), (76, (.getfield 55, 3)), (79, (.iload 4, 2)), (81, (.laload, 1)), (82, (.lastore, 1)), (83, (.goto 11, 3)), (86, (.aload_n 0, 1)), (87, (.getfield 15, 3)), (90, (.iload 5, 2)), (92, (.iconst 0, 1)), (93, (.iastore, 1)), (94, (.iinc 4 1, 3)), (97, (.goto (-92), 3)), (100, (.iload_n 3, 1)), (101, (.ireturn, 1))]
def fX5_publish : List (Nat × (Nat × Nat)) := [(45, (0, 0)), (15, (4, 1)), (19, (4, 2)), (22, (4, 3)), (55, (0, 8))]
def qX5_publish : List (Nat × (Int32 ⊕ Int64)) := []
noncomputable def lX5_publish : List (Nat × (Nat × (Option Nat × pFN))) := [(51, (2, (some 0, kX0_hasWritten)))]
noncomputable def kX5_publish : pFN := pm_met shX (some 4) tX5_publish fX5_publish qX5_publish lX5_publish 6 2
def mX5_publish : Room := { frames := 1, cells := 0, slots := 0, locals := 21 }
set_option maxRecDepth 100000 in
theorem tX5_publish_ok : ∀ q ∈ tX5_publish, decode cX5_publish q.1 = .ok q.2 ∧ pm_tok q.1 q.2.1 q.2.2 = true := by decide +kernel
set_option maxRecDepth 100000 in
theorem fX5_publish_ok : ∀ q ∈ fX5_publish, pm_Fok wsX5_publish yX5_publish.cls q.1 q.2.1 q.2.2 := List.forall_mem_cons.mpr ⟨⟨(RX0, TX0, 18), rfl, by decide, by decide +kernel, fun w h => List.mem_cons_of_mem _ (List.mem_append_left _ (List.mem_append_right _ h))⟩, List.forall_mem_cons.mpr ⟨⟨(RX5, TX5, 4), rfl, by decide, by decide +kernel, fun w h => List.mem_cons_of_mem _ (List.mem_append_right _ h)⟩, List.forall_mem_cons.mpr ⟨⟨(RX5, TX5, 4), rfl, by decide, by decide +kernel, fun w h => List.mem_cons_of_mem _ (List.mem_append_right _ h)⟩, List.forall_mem_cons.mpr ⟨⟨(RX5, TX5, 4), rfl, by decide, by decide +kernel, fun w h => List.mem_cons_of_mem _ (List.mem_append_right _ h)⟩, List.forall_mem_cons.mpr ⟨⟨(RX0, TX0, 18), rfl, by decide, by decide +kernel, fun w h => List.mem_cons_of_mem _ (List.mem_append_left _ (List.mem_append_right _ h))⟩, fun _ h => absurd h List.not_mem_nil⟩⟩⟩⟩⟩
set_option maxRecDepth 100000 in
theorem qX5_publish_ok : ∀ q ∈ qX5_publish, pm_Kok wsX5_publish yX5_publish.cls q.1 q.2 := fun _ h => absurd h List.not_mem_nil
set_option maxRecDepth 100000 in
theorem conX5_publish (l : Launch) : pm_Con l yX5_publish wsX5_publish mX5_publish shX 288 kX5_publish := pm_met_con (cc := cX5_publish) (by decide +kernel) rfl shX_N tX5_publish_ok fX5_publish_ok qX5_publish_ok (List.forall_mem_cons.mpr ⟨⟨yX0_hasWritten, wsX0_hasWritten, _, mX0_hasWritten, cX0_hasWritten, 2, pm_rt 2, (RX0, TX0, 18), conX0_hasWritten l, pm_met_recv, rfl, gX5_publish_X0_hasWritten, rfl, rfl, rfl, by decide +kernel, by decide⟩, fun _ h => absurd h List.not_mem_nil⟩)

def tX1_runOneByOne : List (Nat × (Instr × Nat)) := [(0, (.iconst 0, 1)), (1, (.istore_n 2, 1)), (2, (.iload_n 2, 1)), (3, (.aload_n 0, 1)), (4, (.getfield 33, 3)), (7, (.if_icmp .ge 64, 3)), (10, (.aload_n 0, 1)), (11, (.getfield 20, 3)), (14, (.iload_n 2, 1)), (15, (.aaload, 1)), (16, (.astore_n 3, 1)), (17, (.aload_n 3, 1)), (18, (.invokevirtual 40, 3)), (21, (.iconst 0, 1)), (22, (.istore 4, 2)), (24, (.iload 4, 2)), (26, (.bipush 12, 2)), (28, (.if_icmp .ge 27, 3)), (31, (.aload_n 3, 1)), (32, (.aload_n 1, 1)), (33, (.invokevirtual 43, 3)), (36, (.ifCond .ne 19, 3)), (39, (.aload_n 3, 1)), (40, (.aload_n 1, 1)), (41, (.aload_n 0, 1)), (42, (.getfield 12, 3)), (45, (.invokevirtual 47, 3)), (48, (.pop, 1)), (49, (.iinc 4 1, 3)), (52, (.goto (-28), 3)), (55, (.aload_n 0, 1)), (56, (.getfield 12, 3)), (59, (.aload_n 3, 1)), (60, (.iconst 0, 1)), (61, (.invokevirtual 51, 3)), (64, (.pop, 1)), (65, (.iinc 2 1, 3)), (68, (.goto (-66), 3)), (71, (.return_, 1))]
def fX1_runOneByOne : List (Nat × (Nat × Nat)) := [(33, (1, 2)), (20, (1, 1)), (12, (1, 0))]
def qX1_runOneByOne : List (Nat × (Int32 ⊕ Int64)) := []
noncomputable def lX1_runOneByOne : List (Nat × (Nat × (Option Nat × pFN))) := [(40, (1, (some 0, kX0_begin))), (43, (2, (some 0, kX0_isOver))), (47, (3, (some 0, kX0_doNext))), (51, (3, (some 4, kX5_publish)))]
noncomputable def kX1_runOneByOne : pFN := pm_met shX (some 1) tX1_runOneByOne fX1_runOneByOne qX1_runOneByOne lX1_runOneByOne 5 0
def mX1_runOneByOne : Room := { frames := 3, cells := 0, slots := 0, locals := 78 }
set_option maxRecDepth 100000 in
theorem tX1_runOneByOne_ok : ∀ q ∈ tX1_runOneByOne, decode cX1_runOneByOne q.1 = .ok q.2 ∧ pm_tok q.1 q.2.1 q.2.2 = true := by decide +kernel
set_option maxRecDepth 100000 in
theorem fX1_runOneByOne_ok : ∀ q ∈ fX1_runOneByOne, pm_Fok wsX1_runOneByOne yX1_runOneByOne.cls q.1 q.2.1 q.2.2 := List.forall_mem_cons.mpr ⟨⟨(RX1, TX1, 3), rfl, by decide, by decide +kernel, fun w h => List.mem_cons_of_mem _ (List.mem_append_left _ (List.mem_append_left _ (List.mem_append_left _ (List.mem_append_right _ h))))⟩, List.forall_mem_cons.mpr ⟨⟨(RX1, TX1, 3), rfl, by decide, by decide +kernel, fun w h => List.mem_cons_of_mem _ (List.mem_append_left _ (List.mem_append_left _ (List.mem_append_left _ (List.mem_append_right _ h))))⟩, List.forall_mem_cons.mpr ⟨⟨(RX1, TX1, 3), rfl, by decide, by decide +kernel, fun w h => List.mem_cons_of_mem _ (List.mem_append_left _ (List.mem_append_left _ (List.mem_append_left _ (List.mem_append_right _ h))))⟩, fun _ h => absurd h List.not_mem_nil⟩⟩⟩
set_option maxRecDepth 100000 in
theorem qX1_runOneByOne_ok : ∀ q ∈ qX1_runOneByOne, pm_Kok wsX1_runOneByOne yX1_runOneByOne.cls q.1 q.2 := fun _ h => absurd h List.not_mem_nil
set_option maxRecDepth 100000 in
theorem conX1_runOneByOne (l : Launch) : pm_Con l yX1_runOneByOne wsX1_runOneByOne mX1_runOneByOne shX 288 kX1_runOneByOne := pm_met_con (cc := cX1_runOneByOne) (by decide +kernel) rfl shX_N tX1_runOneByOne_ok fX1_runOneByOne_ok qX1_runOneByOne_ok (List.forall_mem_cons.mpr ⟨⟨yX0_begin, wsX0_begin, _, mX0_begin, cX0_begin, 1, pm_rt 0, (RX0, TX0, 18), conX0_begin l, pm_met_recv, rfl, gX1_runOneByOne_X0_begin, rfl, rfl, rfl, by decide +kernel, by decide⟩, List.forall_mem_cons.mpr ⟨⟨yX0_isOver, wsX0_isOver, _, mX0_isOver, cX0_isOver, 2, pm_rt 2, (RX0, TX0, 18), conX0_isOver l, pm_met_recv, rfl, gX1_runOneByOne_X0_isOver, rfl, rfl, rfl, by decide +kernel, by decide⟩, List.forall_mem_cons.mpr ⟨⟨yX0_doNext, wsX0_doNext, _, mX0_doNext, cX0_doNext, 10, pm_rt 1, (RX0, TX0, 18), conX0_doNext l, pm_met_recv, rfl, gX1_runOneByOne_X0_doNext, rfl, rfl, rfl, by decide +kernel, by decide⟩, List.forall_mem_cons.mpr ⟨⟨yX5_publish, wsX5_publish, _, mX5_publish, cX5_publish, 6, pm_rt 2, (RX5, TX5, 4), conX5_publish l, pm_met_recv, rfl, gX1_runOneByOne_X5_publish, rfl, rfl, rfl, by decide +kernel, by decide⟩, fun _ h => absurd h List.not_mem_nil⟩⟩⟩⟩)

def tX1_joinGroups : List (Nat × (Instr × Nat)) := [(0, (.iload_n 1, 1)), (1, (.iload_n 2, 1)), (2, (.invokestatic 69, 3)), (5, (.istore_n 3, 1)), (6, (.iconst 0, 1)), (7, (.istore 4, 2)), (9, (.iload 4, 2)), (11, (.aload_n 0, 1)), (12, (.getfield 33, 3)), (15, (.if_icmp .ge 42, 3)), (18, (.aload_n 0, 1)), (19, (.getfield 20, 3)), (22, (.iload 4, 2)), (24, (.aaload, 1)), (25, (.astore 5, 2)), (27, (.aload 5, 2)), (29, (.getfield 55, 3)), (32, (.iload_n 1, 1)), (33, (.if_icmp .eq 12, 3)), (36, (.aload 5, 2)), (38, (.getfield 55, 3)), (41, (.iload_n 2, 1)), (42, (.if_icmp .ne 9, 3)), (45, (.aload 5, 2)), (47, (.iload_n 3, 1)), (48, (.putfield 55, 3)), (51, (.iinc 4 1, 3)), (54, (.goto (-45), 3)), (57, (.return_, 1))]
def fX1_joinGroups : List (Nat × (Nat × Nat)) := [(33, (1, 2)), (20, (1, 1)), (55, (0, 7))]
def qX1_joinGroups : List (Nat × (Int32 ⊕ Int64)) := []
noncomputable def lX1_joinGroups : List (Nat × (Nat × (Option Nat × pFN))) := [(69, (2, (none, pm_min)))]
noncomputable def kX1_joinGroups : pFN := pm_met shX (some 1) tX1_joinGroups fX1_joinGroups qX1_joinGroups lX1_joinGroups 6 0
def mX1_joinGroups : Room := { frames := 1, cells := 0, slots := 0, locals := 21 }
set_option maxRecDepth 100000 in
theorem tX1_joinGroups_ok : ∀ q ∈ tX1_joinGroups, decode cX1_joinGroups q.1 = .ok q.2 ∧ pm_tok q.1 q.2.1 q.2.2 = true := by decide +kernel
set_option maxRecDepth 100000 in
theorem fX1_joinGroups_ok : ∀ q ∈ fX1_joinGroups, pm_Fok wsX1_joinGroups yX1_joinGroups.cls q.1 q.2.1 q.2.2 := List.forall_mem_cons.mpr ⟨⟨(RX1, TX1, 3), rfl, by decide, by decide +kernel, fun w h => List.mem_cons_of_mem _ (List.mem_append_left _ (List.mem_append_right _ h))⟩, List.forall_mem_cons.mpr ⟨⟨(RX1, TX1, 3), rfl, by decide, by decide +kernel, fun w h => List.mem_cons_of_mem _ (List.mem_append_left _ (List.mem_append_right _ h))⟩, List.forall_mem_cons.mpr ⟨⟨(RX0, TX0, 18), rfl, by decide, by decide +kernel, fun w h => List.mem_cons_of_mem _ (List.mem_append_right _ h)⟩, fun _ h => absurd h List.not_mem_nil⟩⟩⟩
set_option maxRecDepth 100000 in
theorem qX1_joinGroups_ok : ∀ q ∈ qX1_joinGroups, pm_Kok wsX1_joinGroups yX1_joinGroups.cls q.1 q.2 := fun _ h => absurd h List.not_mem_nil
set_option maxRecDepth 100000 in
theorem conX1_joinGroups (l : Launch) : pm_Con l yX1_joinGroups wsX1_joinGroups mX1_joinGroups shX 288 kX1_joinGroups := pm_met_con (cc := cX1_joinGroups) (by decide +kernel) rfl shX_N tX1_joinGroups_ok fX1_joinGroups_ok qX1_joinGroups_ok (List.forall_mem_cons.mpr ⟨Or.inr (Or.inr ⟨rfl, rfl, by decide +kernel, by decide +kernel, by decide +kernel, List.mem_cons_of_mem _ (by decide +kernel), by decide, by decide⟩), fun _ h => absurd h List.not_mem_nil⟩)
end
section
def tX1_joinTouching : List (Nat × (Instr × Nat)) := [(0, (.iconst (-1), 1)), (1, (.istore_n 2, 1)), (2, (.iconst 0, 1)), (3, (.istore_n 3, 1)), (4, (.iload_n 3, 1)), (5, (.aload_n 0, 1)), (6, (.getfield 33, 3)), (9, (.if_icmp .ge 51, 3)), (12, (.aload_n 0, 1)), (13, (.getfield 20, 3)), (16, (.iload_n 3, 1)), (17, (.aaload, 1)), (18, (.iload_n 1, 1)), (19, (.invokevirtual 61, 3)), (22, (.ifCond .eq 32, 3)), (25, (.iload_n 2, 1)), (26, (.iconst (-1), 1)), (27, (.if_icmp .ne 5, 3)), (30, (.iload_n 3, 1)), (31, (.istore_n 2, 1)), (32, (.aload_n 0, 1)), (33, (.aload_n 0, 1)), (34, (.getfield 20, 3)), (37, (.iload_n 2, 1)), (38, (.aaload, 1)), (39, (.getfield 55, 3)), (42, (.aload_n 0, 1)), (43, (.getfield 20, 3)), (46, (.iload_n 3, 1)), (47, (.aaload, 1)), (48, (.getfield 55, 3)), (51, (.invokevirtual 65, 3)), (54, (.iinc 3 1, 3)), (57, (.goto (-53), 3)), (60, (.return_, 1))]
def fX1_joinTouching : List (Nat × (Nat × Nat)) := [(33, (1, 2)), (20, (1, 1)), (55, (0, 7))]
def qX1_joinTouching : List (Nat × (Int32 ⊕ Int64)) := []
noncomputable def lX1_joinTouching : List (Nat × (Nat × (Option Nat × pFN))) := [(61, (2, (some 0, kX0_touched))), (65, (3, (some 1, kX1_joinGroups)))]
noncomputable def kX1_joinTouching : pFN := pm_met shX (some 1) tX1_joinTouching fX1_joinTouching qX1_joinTouching lX1_joinTouching 4 0
def mX1_joinTouching : Room := { frames := 2, cells := 0, slots := 0, locals := 46 }
set_option maxRecDepth 100000 in
theorem tX1_joinTouching_ok : ∀ q ∈ tX1_joinTouching, decode cX1_joinTouching q.1 = .ok q.2 ∧ pm_tok q.1 q.2.1 q.2.2 = true := by decide +kernel
set_option maxRecDepth 100000 in
theorem fX1_joinTouching_ok : ∀ q ∈ fX1_joinTouching, pm_Fok wsX1_joinTouching yX1_joinTouching.cls q.1 q.2.1 q.2.2 := List.forall_mem_cons.mpr ⟨⟨(RX1, TX1, 3), rfl, by decide, by decide +kernel, fun w h => List.mem_cons_of_mem _ (List.mem_append_left _ (List.mem_append_right _ h))⟩, List.forall_mem_cons.mpr ⟨⟨(RX1, TX1, 3), rfl, by decide, by decide +kernel, fun w h => List.mem_cons_of_mem _ (List.mem_append_left _ (List.mem_append_right _ h))⟩, List.forall_mem_cons.mpr ⟨⟨(RX0, TX0, 18), rfl, by decide, by decide +kernel, fun w h => List.mem_cons_of_mem _ (List.mem_append_right _ h)⟩, fun _ h => absurd h List.not_mem_nil⟩⟩⟩
set_option maxRecDepth 100000 in
theorem qX1_joinTouching_ok : ∀ q ∈ qX1_joinTouching, pm_Kok wsX1_joinTouching yX1_joinTouching.cls q.1 q.2 := fun _ h => absurd h List.not_mem_nil
set_option maxRecDepth 100000 in
theorem conX1_joinTouching (l : Launch) : pm_Con l yX1_joinTouching wsX1_joinTouching mX1_joinTouching shX 288 kX1_joinTouching := pm_met_con (cc := cX1_joinTouching) (by decide +kernel) rfl shX_N tX1_joinTouching_ok fX1_joinTouching_ok qX1_joinTouching_ok (List.forall_mem_cons.mpr ⟨⟨yX0_touched, wsX0_touched, _, mX0_touched, cX0_touched, 2, pm_rt 2, (RX0, TX0, 18), conX0_touched l, pm_met_recv, rfl, gX1_joinTouching_X0_touched, rfl, rfl, rfl, by decide +kernel, by decide⟩, List.forall_mem_cons.mpr ⟨⟨yX1_joinGroups, wsX1_joinGroups, _, mX1_joinGroups, cX1_joinGroups, 6, pm_rt 0, (RX1, TX1, 3), conX1_joinGroups l, pm_met_recv, rfl, gX1_joinTouching_X1_joinGroups, rfl, rfl, rfl, by decide +kernel, by decide⟩, fun _ h => absurd h List.not_mem_nil⟩⟩)

def tX1_formGroups : List (Nat × (Instr × Nat)) := [(0, (.iconst 0, 1)), (1, (.istore_n 1, 1)), (2, (.iload_n 1, 1)), (3, (.aload_n 0, 1)), (4, (.getfield 33, 3)), (7, (.if_icmp .ge 19, 3)), (10, (.aload_n 0, 1)), (11, (.getfield 20, 3)), (14, (.iload_n 1, 1)), (15, (.aaload, 1)), (16, (.iload_n 1, 1)), (17, (.putfield 55, 3)), (20, (.iinc 1 1, 3)), (23, (.goto (-21), 3)), (26, (.iconst 0, 1)), (27, (.istore_n 1, 1)), (28, (.iload_n 1, 1)), (29, (.bipush 32, 2)), (31, (.if_icmp .ge 14, 3)), (34, (.aload_n 0, 1)), (35, (.iload_n 1, 1)), (36, (.invokevirtual 58, 3)), (39, (.iinc 1 1, 3)), (42, (.goto (-14), 3)), (45, (.return_, 1))]
def fX1_formGroups : List (Nat × (Nat × Nat)) := [(33, (1, 2)), (20, (1, 1)), (55, (0, 7))]
def qX1_formGroups : List (Nat × (Int32 ⊕ Int64)) := []
noncomputable def lX1_formGroups : List (Nat × (Nat × (Option Nat × pFN))) := [(58, (2, (some 1, kX1_joinTouching)))]
noncomputable def kX1_formGroups : pFN := pm_met shX (some 1) tX1_formGroups fX1_formGroups qX1_formGroups lX1_formGroups 2 0
def mX1_formGroups : Room := { frames := 3, cells := 0, slots := 0, locals := 69 }
set_option maxRecDepth 100000 in
theorem tX1_formGroups_ok : ∀ q ∈ tX1_formGroups, decode cX1_formGroups q.1 = .ok q.2 ∧ pm_tok q.1 q.2.1 q.2.2 = true := by decide +kernel
set_option maxRecDepth 100000 in
theorem fX1_formGroups_ok : ∀ q ∈ fX1_formGroups, pm_Fok wsX1_formGroups yX1_formGroups.cls q.1 q.2.1 q.2.2 := List.forall_mem_cons.mpr ⟨⟨(RX1, TX1, 3), rfl, by decide, by decide +kernel, fun w h => List.mem_cons_of_mem _ (List.mem_append_left _ (List.mem_append_right _ h))⟩, List.forall_mem_cons.mpr ⟨⟨(RX1, TX1, 3), rfl, by decide, by decide +kernel, fun w h => List.mem_cons_of_mem _ (List.mem_append_left _ (List.mem_append_right _ h))⟩, List.forall_mem_cons.mpr ⟨⟨(RX0, TX0, 18), rfl, by decide, by decide +kernel, fun w h => List.mem_cons_of_mem _ (List.mem_append_right _ h)⟩, fun _ h => absurd h List.not_mem_nil⟩⟩⟩
set_option maxRecDepth 100000 in
theorem qX1_formGroups_ok : ∀ q ∈ qX1_formGroups, pm_Kok wsX1_formGroups yX1_formGroups.cls q.1 q.2 := fun _ h => absurd h List.not_mem_nil
set_option maxRecDepth 100000 in
theorem conX1_formGroups (l : Launch) : pm_Con l yX1_formGroups wsX1_formGroups mX1_formGroups shX 288 kX1_formGroups := pm_met_con (cc := cX1_formGroups) (by decide +kernel) rfl shX_N tX1_formGroups_ok fX1_formGroups_ok qX1_formGroups_ok (List.forall_mem_cons.mpr ⟨⟨yX1_joinTouching, wsX1_joinTouching, _, mX1_joinTouching, cX1_joinTouching, 4, pm_rt 0, (RX1, TX1, 3), conX1_joinTouching l, pm_met_recv, rfl, gX1_formGroups_X1_joinTouching, rfl, rfl, rfl, by decide +kernel, by decide⟩, fun _ h => absurd h List.not_mem_nil⟩)

def tX1_countGroups : List (Nat × (Instr × Nat)) := [(0, (.iconst 0, 1)), (1, (.istore_n 1, 1)), (2, (.iconst 0, 1)), (3, (.istore_n 2, 1)), (4, (.iload_n 2, 1)), (5, (.aload_n 0, 1)), (6, (.getfield 33, 3)), (9, (.if_icmp .ge 25, 3)), (12, (.aload_n 0, 1)), (13, (.getfield 20, 3)), (16, (.iload_n 2, 1)), (17, (.aaload, 1)), (18, (.getfield 55, 3)), (21, (.iload_n 2, 1)), (22, (.if_icmp .ne 6, 3)), (25, (.iinc 1 1, 3)), (28, (.iinc 2 1, 3)), (31, (.goto (-27), 3)), (34, (.iload_n 1, 1)), (35, (.ireturn, 1))]
def fX1_countGroups : List (Nat × (Nat × Nat)) := [(33, (1, 2)), (20, (1, 1)), (55, (0, 7))]
def qX1_countGroups : List (Nat × (Int32 ⊕ Int64)) := []
noncomputable def lX1_countGroups : List (Nat × (Nat × (Option Nat × pFN))) := []
noncomputable def kX1_countGroups : pFN := pm_met shX (some 1) tX1_countGroups fX1_countGroups qX1_countGroups lX1_countGroups 3 1
def mX1_countGroups : Room := { frames := 0, cells := 0, slots := 0, locals := 0 }
set_option maxRecDepth 100000 in
theorem tX1_countGroups_ok : ∀ q ∈ tX1_countGroups, decode cX1_countGroups q.1 = .ok q.2 ∧ pm_tok q.1 q.2.1 q.2.2 = true := by decide +kernel
set_option maxRecDepth 100000 in
theorem fX1_countGroups_ok : ∀ q ∈ fX1_countGroups, pm_Fok wsX1_countGroups yX1_countGroups.cls q.1 q.2.1 q.2.2 := List.forall_mem_cons.mpr ⟨⟨(RX1, TX1, 3), rfl, by decide, by decide +kernel, fun w h => List.mem_cons_of_mem _ (List.mem_append_left _ (List.mem_append_right _ h))⟩, List.forall_mem_cons.mpr ⟨⟨(RX1, TX1, 3), rfl, by decide, by decide +kernel, fun w h => List.mem_cons_of_mem _ (List.mem_append_left _ (List.mem_append_right _ h))⟩, List.forall_mem_cons.mpr ⟨⟨(RX0, TX0, 18), rfl, by decide, by decide +kernel, fun w h => List.mem_cons_of_mem _ (List.mem_append_right _ h)⟩, fun _ h => absurd h List.not_mem_nil⟩⟩⟩
set_option maxRecDepth 100000 in
theorem qX1_countGroups_ok : ∀ q ∈ qX1_countGroups, pm_Kok wsX1_countGroups yX1_countGroups.cls q.1 q.2 := fun _ h => absurd h List.not_mem_nil
set_option maxRecDepth 100000 in
theorem conX1_countGroups (l : Launch) : pm_Con l yX1_countGroups wsX1_countGroups mX1_countGroups shX 288 kX1_countGroups := pm_met_con (cc := cX1_countGroups) (by decide +kernel) rfl shX_N tX1_countGroups_ok fX1_countGroups_ok qX1_countGroups_ok (fun _ h => absurd h List.not_mem_nil)

def tX1_countActs : List (Nat × (Instr × Nat)) := [(0, (.iconst 0, 1)), (1, (.istore_n 1, 1)), (2, (.iconst 0, 1)), (3, (.istore_n 2, 1)), (4, (.iload_n 2, 1)), (5, (.aload_n 0, 1)), (6, (.getfield 33, 3)), (9, (.if_icmp .ge 21, 3)), (12, (.iload_n 1, 1)), (13, (.aload_n 0, 1)), (14, (.getfield 20, 3)), (17, (.iload_n 2, 1)), (18, (.aaload, 1)), (19, (.getfield 75, 3)), (22, (.iadd, 1)), (23, (.istore_n 1, 1)), (24, (.iinc 2 1, 3)), (27, (.goto (-23), 3)), (30, (.iload_n 1, 1)), (31, (.ireturn, 1))]
def fX1_countActs : List (Nat × (Nat × Nat)) := [(33, (1, 2)), (20, (1, 1)), (75, (0, 2))]
def qX1_countActs : List (Nat × (Int32 ⊕ Int64)) := []
noncomputable def lX1_countActs : List (Nat × (Nat × (Option Nat × pFN))) := []
noncomputable def kX1_countActs : pFN := pm_met shX (some 1) tX1_countActs fX1_countActs qX1_countActs lX1_countActs 3 1
def mX1_countActs : Room := { frames := 0, cells := 0, slots := 0, locals := 0 }
set_option maxRecDepth 100000 in
theorem tX1_countActs_ok : ∀ q ∈ tX1_countActs, decode cX1_countActs q.1 = .ok q.2 ∧ pm_tok q.1 q.2.1 q.2.2 = true := by decide +kernel
set_option maxRecDepth 100000 in
theorem fX1_countActs_ok : ∀ q ∈ fX1_countActs, pm_Fok wsX1_countActs yX1_countActs.cls q.1 q.2.1 q.2.2 := List.forall_mem_cons.mpr ⟨⟨(RX1, TX1, 3), rfl, by decide, by decide +kernel, fun w h => List.mem_cons_of_mem _ (List.mem_append_left _ (List.mem_append_right _ h))⟩, List.forall_mem_cons.mpr ⟨⟨(RX1, TX1, 3), rfl, by decide, by decide +kernel, fun w h => List.mem_cons_of_mem _ (List.mem_append_left _ (List.mem_append_right _ h))⟩, List.forall_mem_cons.mpr ⟨⟨(RX0, TX0, 18), rfl, by decide, by decide +kernel, fun w h => List.mem_cons_of_mem _ (List.mem_append_right _ h)⟩, fun _ h => absurd h List.not_mem_nil⟩⟩⟩
set_option maxRecDepth 100000 in
theorem qX1_countActs_ok : ∀ q ∈ qX1_countActs, pm_Kok wsX1_countActs yX1_countActs.cls q.1 q.2 := fun _ h => absurd h List.not_mem_nil
set_option maxRecDepth 100000 in
theorem conX1_countActs (l : Launch) : pm_Con l yX1_countActs wsX1_countActs mX1_countActs shX 288 kX1_countActs := pm_met_con (cc := cX1_countActs) (by decide +kernel) rfl shX_N tX1_countActs_ok fX1_countActs_ok qX1_countActs_ok (fun _ h => absurd h List.not_mem_nil)

def tX1_countEvents : List (Nat × (Instr × Nat)) := [(0, (.iconst 0, 1)), (1, (.istore_n 1, 1)), (2, (.iconst 0, 1)), (3, (.istore_n 2, 1)), (4, (.iload_n 2, 1)), (5, (.aload_n 0, 1)), (6, (.getfield 33, 3)), (9, (.if_icmp .ge 21, 3)), (12, (.iload_n 1, 1)), (13, (.aload_n 0, 1)), (14, (.getfield 20, 3)), (17, (.iload_n 2, 1)), (18, (.aaload, 1)), (19, (.getfield 78, 3)), (22, (.iadd, 1)), (23, (.istore_n 1, 1)), (24, (.iinc 2 1, 3)), (27, (.goto (-23), 3)), (30, (.iload_n 1, 1)), (31, (.ireturn, 1))]
def fX1_countEvents : List (Nat × (Nat × Nat)) := [(33, (1, 2)), (20, (1, 1)), (78, (0, 6))]
def qX1_countEvents : List (Nat × (Int32 ⊕ Int64)) := []
noncomputable def lX1_countEvents : List (Nat × (Nat × (Option Nat × pFN))) := []
noncomputable def kX1_countEvents : pFN := pm_met shX (some 1) tX1_countEvents fX1_countEvents qX1_countEvents lX1_countEvents 3 1
def mX1_countEvents : Room := { frames := 0, cells := 0, slots := 0, locals := 0 }
set_option maxRecDepth 100000 in
theorem tX1_countEvents_ok : ∀ q ∈ tX1_countEvents, decode cX1_countEvents q.1 = .ok q.2 ∧ pm_tok q.1 q.2.1 q.2.2 = true := by decide +kernel
set_option maxRecDepth 100000 in
theorem fX1_countEvents_ok : ∀ q ∈ fX1_countEvents, pm_Fok wsX1_countEvents yX1_countEvents.cls q.1 q.2.1 q.2.2 := List.forall_mem_cons.mpr ⟨⟨(RX1, TX1, 3), rfl, by decide, by decide +kernel, fun w h => List.mem_cons_of_mem _ (List.mem_append_left _ (List.mem_append_right _ h))⟩, List.forall_mem_cons.mpr ⟨⟨(RX1, TX1, 3), rfl, by decide, by decide +kernel, fun w h => List.mem_cons_of_mem _ (List.mem_append_left _ (List.mem_append_right _ h))⟩, List.forall_mem_cons.mpr ⟨⟨(RX0, TX0, 18), rfl, by decide, by decide +kernel, fun w h => List.mem_cons_of_mem _ (List.mem_append_right _ h)⟩, fun _ h => absurd h List.not_mem_nil⟩⟩⟩
set_option maxRecDepth 100000 in
theorem qX1_countEvents_ok : ∀ q ∈ qX1_countEvents, pm_Kok wsX1_countEvents yX1_countEvents.cls q.1 q.2 := fun _ h => absurd h List.not_mem_nil
set_option maxRecDepth 100000 in
theorem conX1_countEvents (l : Launch) : pm_Con l yX1_countEvents wsX1_countEvents mX1_countEvents shX 288 kX1_countEvents := pm_met_con (cc := cX1_countEvents) (by decide +kernel) rfl shX_N tX1_countEvents_ok fX1_countEvents_ok qX1_countEvents_ok (fun _ h => absurd h List.not_mem_nil)

def tX1_tellEvent : List (Nat × (Instr × Nat)) := [(0, (.iload_n 1, 1)), (1, (.ifCond .lt 12, 3)), (4, (.iload_n 2, 1)), (5, (.ifCond .lt 8, 3)), (8, (.iload_n 2, 1)), (9, (.iconst 1, 1)), (10, (.if_icmp .le 5, 3)), (13, (.lconst 0, 1)), (14, (.lreturn, 1)), (15, (.iload_n 1, 1)), (16, (.istore_n 3, 1)), (17, (.iconst 0, 1)), (18, (.istore 4, 2)), (20, (.iload 4, 2)), (22, (.aload_n 0, 1)), (23, (.getfield 33, 3)), (26, (.if_icmp .ge 53, 3)), (29, (.aload_n 0, 1)), (30, (.getfield 20, 3)), (33, (.iload 4, 2)), (35, (.aaload, 1)), (36, (.astore 5, 2)), (38, (.iload_n 3, 1)), (39, (.aload 5, 2)), (41, (.getfield 78, 3)), (44, (.if_icmp .ge 21, 3)), (47, (.iload_n 2, 1)), (48, (.ifCond .ne 13, 3)), (51, (.aload 5, 2)), (53, (.getfield 81, 3)), (56, (.iload_n 3, 1)), (57, (.laload, 1)), (58, (.goto 6, 3)), (61, (.iload 4, 2)), (63, (.i2l, 1)), (64, (.lreturn, 1)), (65, (.iload_n 3, 1)), (66, (.aload 5, 2)), (68, (.getfield 78, 3)), (71, (.isub, 1)), (72, (.istore_n 3, 1)), (73, (.iinc 4 1, 3)), (76, (.goto (-56), 3)), (79, (.lconst 0, 1)), (80, (.lreturn, 1))]
def fX1_tellEvent : List (Nat × (Nat × Nat)) := [(33, (1, 2)), (20, (1, 1)), (78, (0, 6)), (81, (0, 9))]
def qX1_tellEvent : List (Nat × (Int32 ⊕ Int64)) := []
noncomputable def lX1_tellEvent : List (Nat × (Nat × (Option Nat × pFN))) := []
noncomputable def kX1_tellEvent : pFN := pm_met shX (some 1) tX1_tellEvent fX1_tellEvent qX1_tellEvent lX1_tellEvent 6 3
def mX1_tellEvent : Room := { frames := 0, cells := 0, slots := 0, locals := 0 }
set_option maxRecDepth 100000 in
theorem tX1_tellEvent_ok : ∀ q ∈ tX1_tellEvent, decode cX1_tellEvent q.1 = .ok q.2 ∧ pm_tok q.1 q.2.1 q.2.2 = true := by decide +kernel
set_option maxRecDepth 100000 in
theorem fX1_tellEvent_ok : ∀ q ∈ fX1_tellEvent, pm_Fok wsX1_tellEvent yX1_tellEvent.cls q.1 q.2.1 q.2.2 := List.forall_mem_cons.mpr ⟨⟨(RX1, TX1, 3), rfl, by decide, by decide +kernel, fun w h => List.mem_cons_of_mem _ (List.mem_append_left _ (List.mem_append_right _ h))⟩, List.forall_mem_cons.mpr ⟨⟨(RX1, TX1, 3), rfl, by decide, by decide +kernel, fun w h => List.mem_cons_of_mem _ (List.mem_append_left _ (List.mem_append_right _ h))⟩, List.forall_mem_cons.mpr ⟨⟨(RX0, TX0, 18), rfl, by decide, by decide +kernel, fun w h => List.mem_cons_of_mem _ (List.mem_append_right _ h)⟩, List.forall_mem_cons.mpr ⟨⟨(RX0, TX0, 18), rfl, by decide, by decide +kernel, fun w h => List.mem_cons_of_mem _ (List.mem_append_right _ h)⟩, fun _ h => absurd h List.not_mem_nil⟩⟩⟩⟩
set_option maxRecDepth 100000 in
theorem qX1_tellEvent_ok : ∀ q ∈ qX1_tellEvent, pm_Kok wsX1_tellEvent yX1_tellEvent.cls q.1 q.2 := fun _ h => absurd h List.not_mem_nil
set_option maxRecDepth 100000 in
theorem conX1_tellEvent (l : Launch) : pm_Con l yX1_tellEvent wsX1_tellEvent mX1_tellEvent shX 288 kX1_tellEvent := pm_met_con (cc := cX1_tellEvent) (by decide +kernel) rfl shX_N tX1_tellEvent_ok fX1_tellEvent_ok qX1_tellEvent_ok (fun _ h => absurd h List.not_mem_nil)

def tX1_tellCall : List (Nat × (Instr × Nat)) := [(0, (.iload_n 1, 1)), (1, (.ifCond .lt 11, 3)), (4, (.iload_n 1, 1)), (5, (.aload_n 0, 1)), (6, (.getfield 33, 3)), (9, (.if_icmp .lt 5, 3)), (12, (.iconst (-1), 1)), (13, (.ireturn, 1)), (14, (.aload_n 0, 1)), (15, (.getfield 20, 3)), (18, (.iload_n 1, 1)), (19, (.aaload, 1)), (20, (.astore_n 3, 1)), (21, (.iload_n 2, 1)), (22, (.tableswitch 76 0 5 #[38, 43, 48, 61, 66, 71], 38)), (60, (.aload_n 3, 1)), (61, (.getfield 85, 3)), (64, (.ireturn, 1)), (65, (.aload_n 3, 1)), (66, (.getfield 88, 3)), (69, (.ireturn, 1)), (70, (.aload_n 3, 1)), (71, (.getfield 91, 3)), (74, (.ifCond .eq 7, 3)), (77, (.iconst 1, 1)), (78, (.goto 4, 3)), (81, (.iconst 0, 1)), (82, (.ireturn, 1)), (83, (.aload_n 3, 1)), (84, (.getfield 95, 3)), (87, (.ireturn, 1)), (88, (.aload_n 3, 1)), (89, (.invokevirtual 98, 3)), (92, (.ireturn, 1)), (93, (.aload_n 3, 1)), (94, (.getfield 55, 3)), (97, (.ireturn, 1)), (98, (.iconst (-1), 1)), (99, (.ireturn, 1))]
def fX1_tellCall : List (Nat × (Nat × Nat)) := [(33, (1, 2)), (20, (1, 1)), (85, (0, 1)), (88, (0, 3)), (91, (0, 4)), (95, (0, 5)), (55, (0, 7))]
def qX1_tellCall : List (Nat × (Int32 ⊕ Int64)) := []
noncomputable def lX1_tellCall : List (Nat × (Nat × (Option Nat × pFN))) := [(98, (1, (some 0, kX0_countWritten)))]
noncomputable def kX1_tellCall : pFN := pm_met shX (some 1) tX1_tellCall fX1_tellCall qX1_tellCall lX1_tellCall 4 1
def mX1_tellCall : Room := { frames := 2, cells := 0, slots := 0, locals := 40 }
set_option maxRecDepth 100000 in
theorem tX1_tellCall_ok : ∀ q ∈ tX1_tellCall, decode cX1_tellCall q.1 = .ok q.2 ∧ pm_tok q.1 q.2.1 q.2.2 = true := by decide +kernel
set_option maxRecDepth 100000 in
theorem fX1_tellCall_ok : ∀ q ∈ fX1_tellCall, pm_Fok wsX1_tellCall yX1_tellCall.cls q.1 q.2.1 q.2.2 := List.forall_mem_cons.mpr ⟨⟨(RX1, TX1, 3), rfl, by decide, by decide +kernel, fun w h => List.mem_cons_of_mem _ (List.mem_append_left _ (List.mem_append_right _ h))⟩, List.forall_mem_cons.mpr ⟨⟨(RX1, TX1, 3), rfl, by decide, by decide +kernel, fun w h => List.mem_cons_of_mem _ (List.mem_append_left _ (List.mem_append_right _ h))⟩, List.forall_mem_cons.mpr ⟨⟨(RX0, TX0, 18), rfl, by decide, by decide +kernel, fun w h => List.mem_cons_of_mem _ (List.mem_append_right _ h)⟩, List.forall_mem_cons.mpr ⟨⟨(RX0, TX0, 18), rfl, by decide, by decide +kernel, fun w h => List.mem_cons_of_mem _ (List.mem_append_right _ h)⟩, List.forall_mem_cons.mpr ⟨⟨(RX0, TX0, 18), rfl, by decide, by decide +kernel, fun w h => List.mem_cons_of_mem _ (List.mem_append_right _ h)⟩, List.forall_mem_cons.mpr ⟨⟨(RX0, TX0, 18), rfl, by decide, by decide +kernel, fun w h => List.mem_cons_of_mem _ (List.mem_append_right _ h)⟩, List.forall_mem_cons.mpr ⟨⟨(RX0, TX0, 18), rfl, by decide, by decide +kernel, fun w h => List.mem_cons_of_mem _ (List.mem_append_right _ h)⟩, fun _ h => absurd h List.not_mem_nil⟩⟩⟩⟩⟩⟩⟩
set_option maxRecDepth 100000 in
theorem qX1_tellCall_ok : ∀ q ∈ qX1_tellCall, pm_Kok wsX1_tellCall yX1_tellCall.cls q.1 q.2 := fun _ h => absurd h List.not_mem_nil
set_option maxRecDepth 100000 in
theorem conX1_tellCall (l : Launch) : pm_Con l yX1_tellCall wsX1_tellCall mX1_tellCall shX 288 kX1_tellCall := pm_met_con (cc := cX1_tellCall) (by decide +kernel) rfl shX_N tX1_tellCall_ok fX1_tellCall_ok qX1_tellCall_ok (List.forall_mem_cons.mpr ⟨⟨yX0_countWritten, wsX0_countWritten, _, mX0_countWritten, cX0_countWritten, 1, pm_rt 1, (RX0, TX0, 18), conX0_countWritten l, pm_met_recv, rfl, gX1_tellCall_X0_countWritten, rfl, rfl, rfl, by decide +kernel, by decide⟩, fun _ h => absurd h List.not_mem_nil⟩)

def tX2_addCall : List (Nat × (Instr × Nat)) := [(0, (.aload_n 0, 1)), (1, (.getfield 28, 3)), (4, (.bipush 16, 2)), (6, (.if_icmp .lt 5, 3)), (9, (.iconst (-1), 1)), (10, (.ireturn, 1)), (11, (.aload_n 0, 1)), (12, (.getfield 9, 3)), (15, (.aload_n 0, 1)), (16, (.getfield 28, 3)), (19, (.iconst 0, 1)), (20, (.iastore, 1)), (21, (.aload_n 0, 1)), (22, (.dup, 1)), (23, (.getfield 28, 3)), (26, (.iconst 1, 1)), (27, (.iadd, 1)), (28, (.putfield 28, 3)), (31, (.aload_n 0, 1)), (32, (.getfield 28, 3)), (35, (.iconst 1, 1)), (36, (.isub, 1)), (37, (.ireturn, 1))]
def fX2_addCall : List (Nat × (Nat × Nat)) := [(28, (2, 0)), (9, (2, 1))]
def qX2_addCall : List (Nat × (Int32 ⊕ Int64)) := []
noncomputable def lX2_addCall : List (Nat × (Nat × (Option Nat × pFN))) := []
noncomputable def kX2_addCall : pFN := pm_met shX (some 2) tX2_addCall fX2_addCall qX2_addCall lX2_addCall 1 1
def mX2_addCall : Room := { frames := 0, cells := 0, slots := 0, locals := 0 }
set_option maxRecDepth 100000 in
theorem tX2_addCall_ok : ∀ q ∈ tX2_addCall, decode cX2_addCall q.1 = .ok q.2 ∧ pm_tok q.1 q.2.1 q.2.2 = true := by decide +kernel
set_option maxRecDepth 100000 in
theorem fX2_addCall_ok : ∀ q ∈ fX2_addCall, pm_Fok wsX2_addCall yX2_addCall.cls q.1 q.2.1 q.2.2 := List.forall_mem_cons.mpr ⟨⟨(RX2, TX2, 6), rfl, by decide, by decide +kernel, fun w h => List.mem_cons_of_mem _ (List.mem_append_right _ h)⟩, List.forall_mem_cons.mpr ⟨⟨(RX2, TX2, 6), rfl, by decide, by decide +kernel, fun w h => List.mem_cons_of_mem _ (List.mem_append_right _ h)⟩, fun _ h => absurd h List.not_mem_nil⟩⟩
set_option maxRecDepth 100000 in
theorem qX2_addCall_ok : ∀ q ∈ qX2_addCall, pm_Kok wsX2_addCall yX2_addCall.cls q.1 q.2 := fun _ h => absurd h List.not_mem_nil
set_option maxRecDepth 100000 in
theorem conX2_addCall (l : Launch) : pm_Con l yX2_addCall wsX2_addCall mX2_addCall shX 288 kX2_addCall := pm_met_con (cc := cX2_addCall) (by decide +kernel) rfl shX_N tX2_addCall_ok fX2_addCall_ok qX2_addCall_ok (fun _ h => absurd h List.not_mem_nil)

def tX2_addAct : List (Nat × (Instr × Nat)) := [(0, (.iload_n 1, 1)), (1, (.ifCond .lt 22, 3)), (4, (.iload_n 1, 1)), (5, (.aload_n 0, 1)), (6, (.getfield 28, 3)), (9, (.if_icmp .ge 14, 3)), (12, (.aload_n 0, 1)), (13, (.getfield 9, 3)), (16, (.iload_n 1, 1)), (17, (.iaload, 1)), (18, (.bipush 12, 2)), (20, (.if_icmp .lt 5, 3)), (23, (.iconst (-1), 1)), (24, (.ireturn, 1)), (25, (.iload_n 1, 1)), (26, (.bipush 12, 2)), (28, (.imul, 1)), (29, (.aload_n 0, 1)), (30, (.getfield 9, 3)), (33, (.iload_n 1, 1)), (34, (.iaload, 1)), (35, (.iadd, 1)), (36, (.istore 7, 2)), (38, (.aload_n 0, 1)), (39, (.getfield 15, 3)), (42, (.iload 7, 2)), (44, (.iload_n 2, 1)), (45, (.iastore, 1)), (46, (.aload_n 0, 1)), (47, (.getfield 18, 3)), (50, (.iload 7, 2)), (52, (.iload_n 3, 1)), (53, (.iastore, 1)), (54, (.aload_n 0, 1)), (55, (.getfield 21, 3)), (58, (.iload 7, 2)), (60, (.iload 4, 2)), (62, (.iastore, 1)), (63, (.aload_n 0, 1)), (64, (.getfield 24, 3)), (67, (.iload 7, 2)), (69, (.lload 5, 2)), (71, (.lastore, 1)), (72, (.aload_n 0, 1)), (73, (.getfield 9, 3)), (76, (.iload_n 1, 1)), (77, (.dup2, 1)), (78, (.iaload, 1)), (79, (.iconst 1, 1)), (80, (.iadd, 1)), (81, (.iastore, 1)), (82, (.aload_n 0, 1)), (83, (.getfield 9, 3)), (86, (.iload_n 1, 1)), (87, (.iaload, 1)), (88, (.ireturn, 1))]
def fX2_addAct : List (Nat × (Nat × Nat)) := [(28, (2, 0)), (9, (2, 1)), (15, (2, 2)), (18, (2, 3)), (21, (2, 4)), (24, (2, 5))]
def qX2_addAct : List (Nat × (Int32 ⊕ Int64)) := []
noncomputable def lX2_addAct : List (Nat × (Nat × (Option Nat × pFN))) := []
noncomputable def kX2_addAct : pFN := pm_met shX (some 2) tX2_addAct fX2_addAct qX2_addAct lX2_addAct 8 1
def mX2_addAct : Room := { frames := 0, cells := 0, slots := 0, locals := 0 }
set_option maxRecDepth 100000 in
theorem tX2_addAct_ok : ∀ q ∈ tX2_addAct, decode cX2_addAct q.1 = .ok q.2 ∧ pm_tok q.1 q.2.1 q.2.2 = true := by decide +kernel
set_option maxRecDepth 100000 in
theorem fX2_addAct_ok : ∀ q ∈ fX2_addAct, pm_Fok wsX2_addAct yX2_addAct.cls q.1 q.2.1 q.2.2 := List.forall_mem_cons.mpr ⟨⟨(RX2, TX2, 6), rfl, by decide, by decide +kernel, fun w h => List.mem_cons_of_mem _ (List.mem_append_right _ h)⟩, List.forall_mem_cons.mpr ⟨⟨(RX2, TX2, 6), rfl, by decide, by decide +kernel, fun w h => List.mem_cons_of_mem _ (List.mem_append_right _ h)⟩, List.forall_mem_cons.mpr ⟨⟨(RX2, TX2, 6), rfl, by decide, by decide +kernel, fun w h => List.mem_cons_of_mem _ (List.mem_append_right _ h)⟩, List.forall_mem_cons.mpr ⟨⟨(RX2, TX2, 6), rfl, by decide, by decide +kernel, fun w h => List.mem_cons_of_mem _ (List.mem_append_right _ h)⟩, List.forall_mem_cons.mpr ⟨⟨(RX2, TX2, 6), rfl, by decide, by decide +kernel, fun w h => List.mem_cons_of_mem _ (List.mem_append_right _ h)⟩, List.forall_mem_cons.mpr ⟨⟨(RX2, TX2, 6), rfl, by decide, by decide +kernel, fun w h => List.mem_cons_of_mem _ (List.mem_append_right _ h)⟩, fun _ h => absurd h List.not_mem_nil⟩⟩⟩⟩⟩⟩
set_option maxRecDepth 100000 in
theorem qX2_addAct_ok : ∀ q ∈ qX2_addAct, pm_Kok wsX2_addAct yX2_addAct.cls q.1 q.2 := fun _ h => absurd h List.not_mem_nil
set_option maxRecDepth 100000 in
theorem conX2_addAct (l : Launch) : pm_Con l yX2_addAct wsX2_addAct mX2_addAct shX 288 kX2_addAct := pm_met_con (cc := cX2_addAct) (by decide +kernel) rfl shX_N tX2_addAct_ok fX2_addAct_ok qX2_addAct_ok (fun _ h => absurd h List.not_mem_nil)

def tX2_dropCalls : List (Nat × (Instr × Nat)) := [(0, (.aload_n 0, 1)), (1, (.getfield 28, 3)), (4, (.istore_n 1, 1)), (5, (.aload_n 0, 1)), (6, (.iconst 0, 1)), (7, (.putfield 28, 3)), (10, (.iload_n 1, 1)), (11, (.ireturn, 1))]
def fX2_dropCalls : List (Nat × (Nat × Nat)) := [(28, (2, 0))]
def qX2_dropCalls : List (Nat × (Int32 ⊕ Int64)) := []
noncomputable def lX2_dropCalls : List (Nat × (Nat × (Option Nat × pFN))) := []
noncomputable def kX2_dropCalls : pFN := pm_met shX (some 2) tX2_dropCalls fX2_dropCalls qX2_dropCalls lX2_dropCalls 2 1
def mX2_dropCalls : Room := { frames := 0, cells := 0, slots := 0, locals := 0 }
set_option maxRecDepth 100000 in
theorem tX2_dropCalls_ok : ∀ q ∈ tX2_dropCalls, decode cX2_dropCalls q.1 = .ok q.2 ∧ pm_tok q.1 q.2.1 q.2.2 = true := by decide +kernel
set_option maxRecDepth 100000 in
theorem fX2_dropCalls_ok : ∀ q ∈ fX2_dropCalls, pm_Fok wsX2_dropCalls yX2_dropCalls.cls q.1 q.2.1 q.2.2 := List.forall_mem_cons.mpr ⟨⟨(RX2, TX2, 6), rfl, by decide, by decide +kernel, fun w h => List.mem_cons_of_mem _ (List.mem_append_right _ h)⟩, fun _ h => absurd h List.not_mem_nil⟩
set_option maxRecDepth 100000 in
theorem qX2_dropCalls_ok : ∀ q ∈ qX2_dropCalls, pm_Kok wsX2_dropCalls yX2_dropCalls.cls q.1 q.2 := fun _ h => absurd h List.not_mem_nil
set_option maxRecDepth 100000 in
theorem conX2_dropCalls (l : Launch) : pm_Con l yX2_dropCalls wsX2_dropCalls mX2_dropCalls shX 288 kX2_dropCalls := pm_met_con (cc := cX2_dropCalls) (by decide +kernel) rfl shX_N tX2_dropCalls_ok fX2_dropCalls_ok qX2_dropCalls_ok (fun _ h => absurd h List.not_mem_nil)

def tX3_note : List (Nat × (Instr × Nat)) := [(0, (.aload_n 0, 1)), (1, (.getfield 16, 3)), (4, (.sipush 200, 3)), (7, (.if_icmp .ge 23, 3)), (10, (.aload_n 0, 1)), (11, (.getfield 9, 3)), (14, (.aload_n 0, 1)), (15, (.getfield 16, 3)), (18, (.iload_n 1, 1)), (19, (.iastore, 1)), (20, (.aload_n 0, 1)), (21, (.getfield 13, 3)), (24, (.aload_n 0, 1)), (25, (.getfield 16, 3)), (28, (.iload_n 2, 1)), (29, (.iastore, 1)), (30, (.aload_n 0, 1)), (31, (.dup, 1)), (32, (.getfield 16, 3)), (35, (.iconst 1, 1)), (36, (.iadd, 1)), (37, (.putfield 16, 3)), (40, (.return_, 1))]
def fX3_note : List (Nat × (Nat × Nat)) := [(16, (3, 0)), (9, (3, 1)), (13, (3, 2))]
def qX3_note : List (Nat × (Int32 ⊕ Int64)) := []
noncomputable def lX3_note : List (Nat × (Nat × (Option Nat × pFN))) := []
noncomputable def kX3_note : pFN := pm_met shX (some 3) tX3_note fX3_note qX3_note lX3_note 3 0
def mX3_note : Room := { frames := 0, cells := 0, slots := 0, locals := 0 }
set_option maxRecDepth 100000 in
theorem tX3_note_ok : ∀ q ∈ tX3_note, decode cX3_note q.1 = .ok q.2 ∧ pm_tok q.1 q.2.1 q.2.2 = true := by decide +kernel
set_option maxRecDepth 100000 in
theorem fX3_note_ok : ∀ q ∈ fX3_note, pm_Fok wsX3_note yX3_note.cls q.1 q.2.1 q.2.2 := List.forall_mem_cons.mpr ⟨⟨(RX3, TX3, 3), rfl, by decide, by decide +kernel, fun w h => List.mem_cons_of_mem _ (List.mem_append_right _ h)⟩, List.forall_mem_cons.mpr ⟨⟨(RX3, TX3, 3), rfl, by decide, by decide +kernel, fun w h => List.mem_cons_of_mem _ (List.mem_append_right _ h)⟩, List.forall_mem_cons.mpr ⟨⟨(RX3, TX3, 3), rfl, by decide, by decide +kernel, fun w h => List.mem_cons_of_mem _ (List.mem_append_right _ h)⟩, fun _ h => absurd h List.not_mem_nil⟩⟩⟩
set_option maxRecDepth 100000 in
theorem qX3_note_ok : ∀ q ∈ qX3_note, pm_Kok wsX3_note yX3_note.cls q.1 q.2 := fun _ h => absurd h List.not_mem_nil
set_option maxRecDepth 100000 in
theorem conX3_note (l : Launch) : pm_Con l yX3_note wsX3_note mX3_note shX 288 kX3_note := pm_met_con (cc := cX3_note) (by decide +kernel) rfl shX_N tX3_note_ok fX3_note_ok qX3_note_ok (fun _ h => absurd h List.not_mem_nil)

def tX3_tell : List (Nat × (Instr × Nat)) := [(0, (.iload_n 1, 1)), (1, (.ifCond .lt 27, 3)), (4, (.iload_n 1, 1)), (5, (.aload_n 0, 1)), (6, (.getfield 16, 3)), (9, (.if_icmp .ge 19, 3)), (12, (.iload_n 1, 1)), (13, (.sipush 200, 3)), (16, (.if_icmp .ge 12, 3)), (19, (.iload_n 2, 1)), (20, (.ifCond .lt 8, 3)), (23, (.iload_n 2, 1)), (24, (.iconst 1, 1)), (25, (.if_icmp .le 6, 3)), (28, (.bipush (-2), 2)), (30, (.ireturn, 1)), (31, (.iload_n 2, 1)), (32, (.ifCond .ne 12, 3)), (35, (.aload_n 0, 1)), (36, (.getfield 9, 3)), (39, (.iload_n 1, 1)), (40, (.iaload, 1)), (41, (.goto 9, 3)), (44, (.aload_n 0, 1)), (45, (.getfield 13, 3)), (48, (.iload_n 1, 1)), (49, (.iaload, 1)), (50, (.ireturn, 1))]
def fX3_tell : List (Nat × (Nat × Nat)) := [(16, (3, 0)), (9, (3, 1)), (13, (3, 2))]
def qX3_tell : List (Nat × (Int32 ⊕ Int64)) := []
noncomputable def lX3_tell : List (Nat × (Nat × (Option Nat × pFN))) := []
noncomputable def kX3_tell : pFN := pm_met shX (some 3) tX3_tell fX3_tell qX3_tell lX3_tell 3 1
def mX3_tell : Room := { frames := 0, cells := 0, slots := 0, locals := 0 }
set_option maxRecDepth 100000 in
theorem tX3_tell_ok : ∀ q ∈ tX3_tell, decode cX3_tell q.1 = .ok q.2 ∧ pm_tok q.1 q.2.1 q.2.2 = true := by decide +kernel
set_option maxRecDepth 100000 in
theorem fX3_tell_ok : ∀ q ∈ fX3_tell, pm_Fok wsX3_tell yX3_tell.cls q.1 q.2.1 q.2.2 := List.forall_mem_cons.mpr ⟨⟨(RX3, TX3, 3), rfl, by decide, by decide +kernel, fun w h => List.mem_cons_of_mem _ (List.mem_append_right _ h)⟩, List.forall_mem_cons.mpr ⟨⟨(RX3, TX3, 3), rfl, by decide, by decide +kernel, fun w h => List.mem_cons_of_mem _ (List.mem_append_right _ h)⟩, List.forall_mem_cons.mpr ⟨⟨(RX3, TX3, 3), rfl, by decide, by decide +kernel, fun w h => List.mem_cons_of_mem _ (List.mem_append_right _ h)⟩, fun _ h => absurd h List.not_mem_nil⟩⟩⟩
set_option maxRecDepth 100000 in
theorem qX3_tell_ok : ∀ q ∈ qX3_tell, pm_Kok wsX3_tell yX3_tell.cls q.1 q.2 := fun _ h => absurd h List.not_mem_nil
set_option maxRecDepth 100000 in
theorem conX3_tell (l : Launch) : pm_Con l yX3_tell wsX3_tell mX3_tell shX 288 kX3_tell := pm_met_con (cc := cX3_tell) (by decide +kernel) rfl shX_N tX3_tell_ok fX3_tell_ok qX3_tell_ok (fun _ h => absurd h List.not_mem_nil)

def tX4_isRegister : List (Nat × (Instr × Nat)) := [(0, (.iload_n 0, 1)), (1, (.ifCond .lt 12, 3)), (4, (.iload_n 0, 1)), (5, (.iconst 4, 1)), (6, (.if_icmp .ge 7, 3)), (9, (.iconst 1, 1)), (10, (.goto 4, 3)), (13, (.iconst 0, 1)), (14, (.ireturn, 1))]
def fX4_isRegister : List (Nat × (Nat × Nat)) := []
def qX4_isRegister : List (Nat × (Int32 ⊕ Int64)) := []
noncomputable def lX4_isRegister : List (Nat × (Nat × (Option Nat × pFN))) := []
noncomputable def kX4_isRegister : pFN := pm_met shX (none) tX4_isRegister fX4_isRegister qX4_isRegister lX4_isRegister 1 2
def mX4_isRegister : Room := { frames := 0, cells := 0, slots := 0, locals := 0 }
set_option maxRecDepth 100000 in
theorem tX4_isRegister_ok : ∀ q ∈ tX4_isRegister, decode cX4_isRegister q.1 = .ok q.2 ∧ pm_tok q.1 q.2.1 q.2.2 = true := by decide +kernel
set_option maxRecDepth 100000 in
theorem fX4_isRegister_ok : ∀ q ∈ fX4_isRegister, pm_Fok wsX4_isRegister yX4_isRegister.cls q.1 q.2.1 q.2.2 := fun _ h => absurd h List.not_mem_nil
set_option maxRecDepth 100000 in
theorem qX4_isRegister_ok : ∀ q ∈ qX4_isRegister, pm_Kok wsX4_isRegister yX4_isRegister.cls q.1 q.2 := fun _ h => absurd h List.not_mem_nil
set_option maxRecDepth 100000 in
theorem conX4_isRegister (l : Launch) : pm_Con l yX4_isRegister wsX4_isRegister mX4_isRegister shX 288 kX4_isRegister := pm_met_con (cc := cX4_isRegister) (by decide +kernel) rfl shX_N tX4_isRegister_ok fX4_isRegister_ok qX4_isRegister_ok (fun _ h => absurd h List.not_mem_nil)

def tX4_hasSecond : List (Nat × (Instr × Nat)) := [(0, (.iload_n 0, 1)), (1, (.iconst 1, 1)), (2, (.if_icmp .lt 13, 3)), (5, (.iload_n 0, 1)), (6, (.bipush 6, 2)), (8, (.if_icmp .gt 7, 3)), (11, (.iconst 1, 1)), (12, (.goto 4, 3)), (15, (.iconst 0, 1)), (16, (.ireturn, 1))]
def fX4_hasSecond : List (Nat × (Nat × Nat)) := []
def qX4_hasSecond : List (Nat × (Int32 ⊕ Int64)) := []
noncomputable def lX4_hasSecond : List (Nat × (Nat × (Option Nat × pFN))) := []
noncomputable def kX4_hasSecond : pFN := pm_met shX (none) tX4_hasSecond fX4_hasSecond qX4_hasSecond lX4_hasSecond 1 2
def mX4_hasSecond : Room := { frames := 0, cells := 0, slots := 0, locals := 0 }
set_option maxRecDepth 100000 in
theorem tX4_hasSecond_ok : ∀ q ∈ tX4_hasSecond, decode cX4_hasSecond q.1 = .ok q.2 ∧ pm_tok q.1 q.2.1 q.2.2 = true := by decide +kernel
set_option maxRecDepth 100000 in
theorem fX4_hasSecond_ok : ∀ q ∈ fX4_hasSecond, pm_Fok wsX4_hasSecond yX4_hasSecond.cls q.1 q.2.1 q.2.2 := fun _ h => absurd h List.not_mem_nil
set_option maxRecDepth 100000 in
theorem qX4_hasSecond_ok : ∀ q ∈ qX4_hasSecond, pm_Kok wsX4_hasSecond yX4_hasSecond.cls q.1 q.2 := fun _ h => absurd h List.not_mem_nil
set_option maxRecDepth 100000 in
theorem conX4_hasSecond (l : Launch) : pm_Con l yX4_hasSecond wsX4_hasSecond mX4_hasSecond shX 288 kX4_hasSecond := pm_met_con (cc := cX4_hasSecond) (by decide +kernel) rfl shX_N tX4_hasSecond_ok fX4_hasSecond_ok qX4_hasSecond_ok (fun _ h => absurd h List.not_mem_nil)
end
section
def tX4_allowsValue : List (Nat × (Instr × Nat)) := [(0, (.iload_n 0, 1)), (1, (.iconst 2, 1)), (2, (.if_icmp .gt 5, 3)), (5, (.iconst 1, 1)), (6, (.ireturn, 1)), (7, (.iload_n 0, 1)), (8, (.bipush 6, 2)), (10, (.if_icmp .ne 25, 3)), (13, (.lload_n 1, 1)), (14, (.lconst 1, 1)), (15, (.lcmp, 1)), (16, (.ifCond .lt 15, 3)), (19, (.lload_n 1, 1)), (20, (.ldc2_w 22, 3)), (23, (.lcmp, 1)), (24, (.ifCond .gt 7, 3)), (27, (.iconst 1, 1)), (28, (.goto 18, 3)), (31, (.iconst 0, 1)), (32, (.goto 14, 3)), (35, (.lload_n 1, 1)), (36, (.lconst 0, 1)), (37, (.lcmp, 1)), (38, (.ifCond .ne 7, 3)), (41, (.iconst 1, 1)), (42, (.goto 4, 3)), (45, (.iconst 0, 1)), (46, (.ireturn, 1))]
def fX4_allowsValue : List (Nat × (Nat × Nat)) := []
def qX4_allowsValue : List (Nat × (Int32 ⊕ Int64)) := [(22, .inr (12))]
noncomputable def lX4_allowsValue : List (Nat × (Nat × (Option Nat × pFN))) := []
noncomputable def kX4_allowsValue : pFN := pm_met shX (none) tX4_allowsValue fX4_allowsValue qX4_allowsValue lX4_allowsValue 3 2
def mX4_allowsValue : Room := { frames := 0, cells := 0, slots := 0, locals := 0 }
set_option maxRecDepth 100000 in
theorem tX4_allowsValue_ok : ∀ q ∈ tX4_allowsValue, decode cX4_allowsValue q.1 = .ok q.2 ∧ pm_tok q.1 q.2.1 q.2.2 = true := by decide +kernel
set_option maxRecDepth 100000 in
theorem fX4_allowsValue_ok : ∀ q ∈ fX4_allowsValue, pm_Fok wsX4_allowsValue yX4_allowsValue.cls q.1 q.2.1 q.2.2 := fun _ h => absurd h List.not_mem_nil
set_option maxRecDepth 100000 in
theorem qX4_allowsValue_ok : ∀ q ∈ qX4_allowsValue, pm_Kok wsX4_allowsValue yX4_allowsValue.cls q.1 q.2 := List.forall_mem_cons.mpr ⟨(by decide +kernel : _ ∈ wsX4_allowsValue), fun _ h => absurd h List.not_mem_nil⟩
set_option maxRecDepth 100000 in
theorem conX4_allowsValue (l : Launch) : pm_Con l yX4_allowsValue wsX4_allowsValue mX4_allowsValue shX 288 kX4_allowsValue := pm_met_con (cc := cX4_allowsValue) (by decide +kernel) rfl shX_N tX4_allowsValue_ok fX4_allowsValue_ok qX4_allowsValue_ok (fun _ h => absurd h List.not_mem_nil)

def tX4_allows : List (Nat × (Instr × Nat)) := [(0, (.iload_n 0, 1)), (1, (.ifCond .lt 49, 3)), (4, (.iload_n 0, 1)), (5, (.bipush 8, 2)), (7, (.if_icmp .gt 43, 3)), (10, (.iload_n 1, 1)), (11, (.invokestatic 11, 3)), (14, (.ifCond .eq 36, 3)), (17, (.iload_n 0, 1)), (18, (.invokestatic 15, 3)), (21, (.ifCond .eq 13, 3)), (24, (.iload_n 2, 1)), (25, (.invokestatic 11, 3)), (28, (.ifCond .eq 22, 3)), (31, (.goto 7, 3)), (34, (.iload_n 2, 1)), (35, (.ifCond .ne 15, 3)), (38, (.iload_n 0, 1)), (39, (.lload_n 3, 1)), (40, (.invokestatic 18, 3)), (43, (.ifCond .eq 7, 3)), (46, (.iconst 1, 1)), (47, (.goto 4, 3)), (50, (.iconst 0, 1)), (51, (.ireturn, 1))]
def fX4_allows : List (Nat × (Nat × Nat)) := []
def qX4_allows : List (Nat × (Int32 ⊕ Int64)) := []
noncomputable def lX4_allows : List (Nat × (Nat × (Option Nat × pFN))) := [(11, (1, (none, kX4_isRegister))), (15, (1, (none, kX4_hasSecond))), (18, (2, (none, kX4_allowsValue)))]
noncomputable def kX4_allows : pFN := pm_met shX (none) tX4_allows fX4_allows qX4_allows lX4_allows 5 2
def mX4_allows : Room := { frames := 1, cells := 0, slots := 0, locals := 22 }
set_option maxRecDepth 100000 in
theorem tX4_allows_ok : ∀ q ∈ tX4_allows, decode cX4_allows q.1 = .ok q.2 ∧ pm_tok q.1 q.2.1 q.2.2 = true := by decide +kernel
set_option maxRecDepth 100000 in
theorem fX4_allows_ok : ∀ q ∈ fX4_allows, pm_Fok wsX4_allows yX4_allows.cls q.1 q.2.1 q.2.2 := fun _ h => absurd h List.not_mem_nil
set_option maxRecDepth 100000 in
theorem qX4_allows_ok : ∀ q ∈ qX4_allows, pm_Kok wsX4_allows yX4_allows.cls q.1 q.2 := fun _ h => absurd h List.not_mem_nil
set_option maxRecDepth 100000 in
theorem conX4_allows (l : Launch) : pm_Con l yX4_allows wsX4_allows mX4_allows shX 288 kX4_allows := pm_met_con (cc := cX4_allows) (by decide +kernel) rfl shX_N tX4_allows_ok fX4_allows_ok qX4_allows_ok (List.forall_mem_cons.mpr ⟨Or.inl ⟨yX4_isRegister, wsX4_isRegister, _, mX4_isRegister, cX4_isRegister, 1, pm_rt 2, conX4_isRegister l, gX4_allows_X4_isRegister, rfl, rfl, rfl, by decide +kernel, by decide⟩, List.forall_mem_cons.mpr ⟨Or.inl ⟨yX4_hasSecond, wsX4_hasSecond, _, mX4_hasSecond, cX4_hasSecond, 1, pm_rt 2, conX4_hasSecond l, gX4_allows_X4_hasSecond, rfl, rfl, rfl, by decide +kernel, by decide⟩, List.forall_mem_cons.mpr ⟨Or.inl ⟨yX4_allowsValue, wsX4_allowsValue, _, mX4_allowsValue, cX4_allowsValue, 3, pm_rt 2, conX4_allowsValue l, gX4_allows_X4_allowsValue, rfl, rfl, rfl, by decide +kernel, by decide⟩, fun _ h => absurd h List.not_mem_nil⟩⟩⟩)

def tX5_valueAfter : List (Nat × (Instr × Nat)) := [(0, (.aload_n 0, 1)), (1, (.iload_n 1, 1)), (2, (.aload_n 0, 1)), (3, (.iload_n 1, 1)), (4, (.bipush 16, 2)), (6, (.invokevirtual 37, 3)), (9, (.invokevirtual 41, 3)), (12, (.lreturn, 1))]
def fX5_valueAfter : List (Nat × (Nat × Nat)) := []
def qX5_valueAfter : List (Nat × (Int32 ⊕ Int64)) := []
noncomputable def lX5_valueAfter : List (Nat × (Nat × (Option Nat × pFN))) := [(37, (3, (some 4, kX5_writerBelow))), (41, (3, (some 4, kX5_valueOf)))]
noncomputable def kX5_valueAfter : pFN := pm_met shX (some 4) tX5_valueAfter fX5_valueAfter qX5_valueAfter lX5_valueAfter 2 3
def mX5_valueAfter : Room := { frames := 1, cells := 0, slots := 0, locals := 23 }
set_option maxRecDepth 100000 in
theorem tX5_valueAfter_ok : ∀ q ∈ tX5_valueAfter, decode cX5_valueAfter q.1 = .ok q.2 ∧ pm_tok q.1 q.2.1 q.2.2 = true := by decide +kernel
set_option maxRecDepth 100000 in
theorem fX5_valueAfter_ok : ∀ q ∈ fX5_valueAfter, pm_Fok wsX5_valueAfter yX5_valueAfter.cls q.1 q.2.1 q.2.2 := fun _ h => absurd h List.not_mem_nil
set_option maxRecDepth 100000 in
theorem qX5_valueAfter_ok : ∀ q ∈ qX5_valueAfter, pm_Kok wsX5_valueAfter yX5_valueAfter.cls q.1 q.2 := fun _ h => absurd h List.not_mem_nil
set_option maxRecDepth 100000 in
theorem conX5_valueAfter (l : Launch) : pm_Con l yX5_valueAfter wsX5_valueAfter mX5_valueAfter shX 288 kX5_valueAfter := pm_met_con (cc := cX5_valueAfter) (by decide +kernel) rfl shX_N tX5_valueAfter_ok fX5_valueAfter_ok qX5_valueAfter_ok (List.forall_mem_cons.mpr ⟨⟨yX5_writerBelow, wsX5_writerBelow, _, mX5_writerBelow, cX5_writerBelow, 4, pm_rt 1, (RX5, TX5, 4), conX5_writerBelow l, pm_met_recv, rfl, gX5_valueAfter_X5_writerBelow, rfl, rfl, rfl, by decide +kernel, by decide⟩, List.forall_mem_cons.mpr ⟨⟨yX5_valueOf, wsX5_valueOf, _, mX5_valueOf, cX5_valueOf, 3, pm_rt 3, (RX5, TX5, 4), conX5_valueOf l, pm_met_recv, rfl, gX5_valueAfter_X5_valueOf, rfl, rfl, rfl, by decide +kernel, by decide⟩, fun _ h => absurd h List.not_mem_nil⟩⟩)

def tX5_doubt : List (Nat × (Instr × Nat)) := [(0, (.iconst 0, 1)), (1, (.istore_n 2, 1)), (2, (.iload_n 2, 1)), (3, (.bipush 32, 2)), (5, (.if_icmp .ge 35, 3)), (8, (.aload_n 0, 1)), (9, (.getfield 15, 3)), (12, (.iload_n 2, 1)), (13, (.bipush 16, 2)), (15, (.imul, 1)), (16, (.iload_n 1, 1)), (17, (.iadd, 1)), (18, (.iaload, 1)), (19, (.ifCond .eq 15, 3)), (22, (.aload_n 0, 1)), (23, (.getfield 15, 3)), (26, (.iload_n 2, 1)), (27, (.bipush 16, 2)), (29, (.imul, 1)), (30, (.iload_n 1, 1)), (31, (.iadd, 1)), (32, (.iconst 2, 1)), (33, (.iastore, 1)), (34, (.iinc 2 1, 3)), (37, (.goto (-35), 3)), (40, (.return_, 1))]
def fX5_doubt : List (Nat × (Nat × Nat)) := [(15, (4, 1))]
def qX5_doubt : List (Nat × (Int32 ⊕ Int64)) := []
noncomputable def lX5_doubt : List (Nat × (Nat × (Option Nat × pFN))) := []
noncomputable def kX5_doubt : pFN := pm_met shX (some 4) tX5_doubt fX5_doubt qX5_doubt lX5_doubt 3 0
def mX5_doubt : Room := { frames := 0, cells := 0, slots := 0, locals := 0 }
set_option maxRecDepth 100000 in
theorem tX5_doubt_ok : ∀ q ∈ tX5_doubt, decode cX5_doubt q.1 = .ok q.2 ∧ pm_tok q.1 q.2.1 q.2.2 = true := by decide +kernel
set_option maxRecDepth 100000 in
theorem fX5_doubt_ok : ∀ q ∈ fX5_doubt, pm_Fok wsX5_doubt yX5_doubt.cls q.1 q.2.1 q.2.2 := List.forall_mem_cons.mpr ⟨⟨(RX5, TX5, 4), rfl, by decide, by decide +kernel, fun w h => List.mem_cons_of_mem _ (List.mem_append_right _ h)⟩, fun _ h => absurd h List.not_mem_nil⟩
set_option maxRecDepth 100000 in
theorem qX5_doubt_ok : ∀ q ∈ qX5_doubt, pm_Kok wsX5_doubt yX5_doubt.cls q.1 q.2 := fun _ h => absurd h List.not_mem_nil
set_option maxRecDepth 100000 in
theorem conX5_doubt (l : Launch) : pm_Con l yX5_doubt wsX5_doubt mX5_doubt shX 288 kX5_doubt := pm_met_con (cc := cX5_doubt) (by decide +kernel) rfl shX_N tX5_doubt_ok fX5_doubt_ok qX5_doubt_ok (fun _ h => absurd h List.not_mem_nil)

def tX6_open : List (Nat × (Instr × Nat)) := [(0, (.aload_n 0, 1)), (1, (.getfield 12, 3)), (4, (.aload_n 1, 1)), (5, (.aload_n 2, 1)), (6, (.invokevirtual 44, 3)), (9, (.aload_n 0, 1)), (10, (.getfield 21, 3)), (13, (.iconst 0, 1)), (14, (.putfield 48, 3)), (17, (.aload_n 0, 1)), (18, (.iconst 0, 1)), (19, (.putfield 52, 3)), (22, (.aload_n 0, 1)), (23, (.iconst 0, 1)), (24, (.putfield 55, 3)), (27, (.aload_n 0, 1)), (28, (.iconst 0, 1)), (29, (.putfield 58, 3)), (32, (.aload_n 0, 1)), (33, (.iconst 0, 1)), (34, (.putfield 61, 3)), (37, (.aload_n 0, 1)), (38, (.iconst 0, 1)), (39, (.putfield 64, 3)), (42, (.aload_n 0, 1)), (43, (.iload_n 3, 1)), (44, (.putfield 68, 3)), (47, (.aload_n 0, 1)), (48, (.iload 4, 2)), (50, (.putfield 71, 3)), (53, (.aload_n 0, 1)), (54, (.iconst 0, 1)), (55, (.putfield 74, 3)), (58, (.aload_n 0, 1)), (59, (.iconst 0, 1)), (60, (.putfield 77, 3)), (63, (.aload_n 0, 1)), (64, (.getfield 25, 3)), (67, (.iconst 0, 1)), (68, (.invokestatic 80, 3)), (71, (.aload_n 0, 1)), (72, (.getfield 29, 3)), (75, (.iconst (-1), 1)), (76, (.invokestatic 80, 3)), (79, (.aload_n 0, 1)), (80, (.getfield 32, 3)), (83, (.iconst 0, 1)), (84, (.invokestatic 80, 3)), (87, (.aload_n 0, 1)), (88, (.getfield 35, 3)), (91, (.iconst 0, 1)), (92, (.invokestatic 80, 3)), (95, (.return_, 1))]
def fX6_open : List (Nat × (Nat × Nat)) := [(12, (5, 0)), (21, (5, 1)), (48, (3, 0)), (52, (5, 2)), (55, (5, 3)), (58, (5, 4)), (61, (5, 5)), (64, (5, 6)), (68, (5, 7)), (71, (5, 8)), (74, (5, 9)), (77, (5, 10)), (25, (5, 11)), (29, (5, 12)), (32, (5, 13)), (35, (5, 14))]
def qX6_open : List (Nat × (Int32 ⊕ Int64)) := []
noncomputable def lX6_open : List (Nat × (Nat × (Option Nat × pFN))) := [(44, (3, (some 1, kX1_open))), (80, (2, (none, kJ7_fill_53178)))]
noncomputable def kX6_open : pFN := pm_met shX (some 5) tX6_open fX6_open qX6_open lX6_open 5 0
def mX6_open : Room := { frames := 3, cells := 0, slots := 0, locals := 74 }
set_option maxRecDepth 100000 in
theorem tX6_open_ok : ∀ q ∈ tX6_open, decode cX6_open q.1 = .ok q.2 ∧ pm_tok q.1 q.2.1 q.2.2 = true := by decide +kernel
set_option maxRecDepth 100000 in
theorem fX6_open_ok : ∀ q ∈ fX6_open, pm_Fok wsX6_open yX6_open.cls q.1 q.2.1 q.2.2 := List.forall_mem_cons.mpr ⟨⟨(RX6, TX6, 17), rfl, by decide, by decide +kernel, fun w h => List.mem_cons_of_mem _ (List.mem_append_left _ (List.mem_append_left _ (List.mem_append_left _ (List.mem_append_left _ (List.mem_append_left _ (List.mem_append_right _ h))))))⟩, List.forall_mem_cons.mpr ⟨⟨(RX6, TX6, 17), rfl, by decide, by decide +kernel, fun w h => List.mem_cons_of_mem _ (List.mem_append_left _ (List.mem_append_left _ (List.mem_append_left _ (List.mem_append_left _ (List.mem_append_left _ (List.mem_append_right _ h))))))⟩, List.forall_mem_cons.mpr ⟨⟨(RX3, TX3, 3), rfl, by decide, by decide +kernel, fun w h => List.mem_cons_of_mem _ (List.mem_append_left _ (List.mem_append_left _ (List.mem_append_left _ (List.mem_append_left _ (List.mem_append_right _ h)))))⟩, List.forall_mem_cons.mpr ⟨⟨(RX6, TX6, 17), rfl, by decide, by decide +kernel, fun w h => List.mem_cons_of_mem _ (List.mem_append_left _ (List.mem_append_left _ (List.mem_append_left _ (List.mem_append_left _ (List.mem_append_left _ (List.mem_append_right _ h))))))⟩, List.forall_mem_cons.mpr ⟨⟨(RX6, TX6, 17), rfl, by decide, by decide +kernel, fun w h => List.mem_cons_of_mem _ (List.mem_append_left _ (List.mem_append_left _ (List.mem_append_left _ (List.mem_append_left _ (List.mem_append_left _ (List.mem_append_right _ h))))))⟩, List.forall_mem_cons.mpr ⟨⟨(RX6, TX6, 17), rfl, by decide, by decide +kernel, fun w h => List.mem_cons_of_mem _ (List.mem_append_left _ (List.mem_append_left _ (List.mem_append_left _ (List.mem_append_left _ (List.mem_append_left _ (List.mem_append_right _ h))))))⟩, List.forall_mem_cons.mpr ⟨⟨(RX6, TX6, 17), rfl, by decide, by decide +kernel, fun w h => List.mem_cons_of_mem _ (List.mem_append_left _ (List.mem_append_left _ (List.mem_append_left _ (List.mem_append_left _ (List.mem_append_left _ (List.mem_append_right _ h))))))⟩, List.forall_mem_cons.mpr ⟨⟨(RX6, TX6, 17), rfl, by decide, by decide +kernel, fun w h => List.mem_cons_of_mem _ (List.mem_append_left _ (List.mem_append_left _ (List.mem_append_left _ (List.mem_append_left _ (List.mem_append_left _ (List.mem_append_right _ h))))))⟩, List.forall_mem_cons.mpr ⟨⟨(RX6, TX6, 17), rfl, by decide, by decide +kernel, fun w h => List.mem_cons_of_mem _ (List.mem_append_left _ (List.mem_append_left _ (List.mem_append_left _ (List.mem_append_left _ (List.mem_append_left _ (List.mem_append_right _ h))))))⟩, List.forall_mem_cons.mpr ⟨⟨(RX6, TX6, 17), rfl, by decide, by decide +kernel, fun w h => List.mem_cons_of_mem _ (List.mem_append_left _ (List.mem_append_left _ (List.mem_append_left _ (List.mem_append_left _ (List.mem_append_left _ (List.mem_append_right _ h))))))⟩, List.forall_mem_cons.mpr ⟨⟨(RX6, TX6, 17), rfl, by decide, by decide +kernel, fun w h => List.mem_cons_of_mem _ (List.mem_append_left _ (List.mem_append_left _ (List.mem_append_left _ (List.mem_append_left _ (List.mem_append_left _ (List.mem_append_right _ h))))))⟩, List.forall_mem_cons.mpr ⟨⟨(RX6, TX6, 17), rfl, by decide, by decide +kernel, fun w h => List.mem_cons_of_mem _ (List.mem_append_left _ (List.mem_append_left _ (List.mem_append_left _ (List.mem_append_left _ (List.mem_append_left _ (List.mem_append_right _ h))))))⟩, List.forall_mem_cons.mpr ⟨⟨(RX6, TX6, 17), rfl, by decide, by decide +kernel, fun w h => List.mem_cons_of_mem _ (List.mem_append_left _ (List.mem_append_left _ (List.mem_append_left _ (List.mem_append_left _ (List.mem_append_left _ (List.mem_append_right _ h))))))⟩, List.forall_mem_cons.mpr ⟨⟨(RX6, TX6, 17), rfl, by decide, by decide +kernel, fun w h => List.mem_cons_of_mem _ (List.mem_append_left _ (List.mem_append_left _ (List.mem_append_left _ (List.mem_append_left _ (List.mem_append_left _ (List.mem_append_right _ h))))))⟩, List.forall_mem_cons.mpr ⟨⟨(RX6, TX6, 17), rfl, by decide, by decide +kernel, fun w h => List.mem_cons_of_mem _ (List.mem_append_left _ (List.mem_append_left _ (List.mem_append_left _ (List.mem_append_left _ (List.mem_append_left _ (List.mem_append_right _ h))))))⟩, List.forall_mem_cons.mpr ⟨⟨(RX6, TX6, 17), rfl, by decide, by decide +kernel, fun w h => List.mem_cons_of_mem _ (List.mem_append_left _ (List.mem_append_left _ (List.mem_append_left _ (List.mem_append_left _ (List.mem_append_left _ (List.mem_append_right _ h))))))⟩, fun _ h => absurd h List.not_mem_nil⟩⟩⟩⟩⟩⟩⟩⟩⟩⟩⟩⟩⟩⟩⟩⟩
set_option maxRecDepth 100000 in
theorem qX6_open_ok : ∀ q ∈ qX6_open, pm_Kok wsX6_open yX6_open.cls q.1 q.2 := fun _ h => absurd h List.not_mem_nil
set_option maxRecDepth 100000 in
theorem conX6_open (l : Launch) : pm_Con l yX6_open wsX6_open mX6_open shX 288 kX6_open := pm_met_con (cc := cX6_open) (by decide +kernel) rfl shX_N tX6_open_ok fX6_open_ok qX6_open_ok (List.forall_mem_cons.mpr ⟨⟨yX1_open, wsX1_open, _, mX1_open, cX1_open, 4, pm_rt 0, (RX1, TX1, 3), conX1_open l, pm_met_recv, rfl, gX6_open_X1_open, rfl, rfl, rfl, by decide +kernel, by decide⟩, List.forall_mem_cons.mpr ⟨Or.inl ⟨yJ7_fill_53178, wsJ7_fill_53178, _, mJ7_fill_53178, cJ7_fill_53178, 4, pm_rt 0, conJ7_fill_53178 l, gX6_open_J7_fill_53178, rfl, rfl, rfl, by decide +kernel, by decide⟩, fun _ h => absurd h List.not_mem_nil⟩⟩)

def tX6_isDone : List (Nat × (Instr × Nat)) := [(0, (.aload_n 0, 1)), (1, (.getfield 74, 3)), (4, (.aload_n 0, 1)), (5, (.getfield 12, 3)), (8, (.getfield 103, 3)), (11, (.if_icmp .lt 17, 3)), (14, (.aload_n 0, 1)), (15, (.getfield 77, 3)), (18, (.aload_n 0, 1)), (19, (.getfield 12, 3)), (22, (.getfield 103, 3)), (25, (.if_icmp .ge 5, 3)), (28, (.iconst 0, 1)), (29, (.ireturn, 1)), (30, (.iconst 0, 1)), (31, (.istore_n 1, 1)), (32, (.iload_n 1, 1)), (33, (.aload_n 0, 1)), (34, (.getfield 68, 3)), (37, (.if_icmp .ge 20, 3)), (40, (.aload_n 0, 1)), (41, (.getfield 35, 3)), (44, (.iload_n 1, 1)), (45, (.iaload, 1)), (46, (.ifCond .eq 5, 3)), (49, (.iconst 0, 1)), (50, (.ireturn, 1)), (51, (.iinc 1 1, 3)), (54, (.goto (-22), 3)), (57, (.iconst 1, 1)), (58, (.ireturn, 1))]
def fX6_isDone : List (Nat × (Nat × Nat)) := [(74, (5, 9)), (12, (5, 0)), (103, (1, 2)), (77, (5, 10)), (68, (5, 7)), (35, (5, 14))]
def qX6_isDone : List (Nat × (Int32 ⊕ Int64)) := []
noncomputable def lX6_isDone : List (Nat × (Nat × (Option Nat × pFN))) := []
noncomputable def kX6_isDone : pFN := pm_met shX (some 5) tX6_isDone fX6_isDone qX6_isDone lX6_isDone 2 2
def mX6_isDone : Room := { frames := 0, cells := 0, slots := 0, locals := 0 }
set_option maxRecDepth 100000 in
theorem tX6_isDone_ok : ∀ q ∈ tX6_isDone, decode cX6_isDone q.1 = .ok q.2 ∧ pm_tok q.1 q.2.1 q.2.2 = true := by decide +kernel
set_option maxRecDepth 100000 in
theorem fX6_isDone_ok : ∀ q ∈ fX6_isDone, pm_Fok wsX6_isDone yX6_isDone.cls q.1 q.2.1 q.2.2 := List.forall_mem_cons.mpr ⟨⟨(RX6, TX6, 17), rfl, by decide, by decide +kernel, fun w h => List.mem_cons_of_mem _ (List.mem_append_left _ (List.mem_append_right _ h))⟩, List.forall_mem_cons.mpr ⟨⟨(RX6, TX6, 17), rfl, by decide, by decide +kernel, fun w h => List.mem_cons_of_mem _ (List.mem_append_left _ (List.mem_append_right _ h))⟩, List.forall_mem_cons.mpr ⟨⟨(RX1, TX1, 3), rfl, by decide, by decide +kernel, fun w h => List.mem_cons_of_mem _ (List.mem_append_right _ h)⟩, List.forall_mem_cons.mpr ⟨⟨(RX6, TX6, 17), rfl, by decide, by decide +kernel, fun w h => List.mem_cons_of_mem _ (List.mem_append_left _ (List.mem_append_right _ h))⟩, List.forall_mem_cons.mpr ⟨⟨(RX6, TX6, 17), rfl, by decide, by decide +kernel, fun w h => List.mem_cons_of_mem _ (List.mem_append_left _ (List.mem_append_right _ h))⟩, List.forall_mem_cons.mpr ⟨⟨(RX6, TX6, 17), rfl, by decide, by decide +kernel, fun w h => List.mem_cons_of_mem _ (List.mem_append_left _ (List.mem_append_right _ h))⟩, fun _ h => absurd h List.not_mem_nil⟩⟩⟩⟩⟩⟩
set_option maxRecDepth 100000 in
theorem qX6_isDone_ok : ∀ q ∈ qX6_isDone, pm_Kok wsX6_isDone yX6_isDone.cls q.1 q.2 := fun _ h => absurd h List.not_mem_nil
set_option maxRecDepth 100000 in
theorem conX6_isDone (l : Launch) : pm_Con l yX6_isDone wsX6_isDone mX6_isDone shX 288 kX6_isDone := pm_met_con (cc := cX6_isDone) (by decide +kernel) rfl shX_N tX6_isDone_ok fX6_isDone_ok qX6_isDone_ok (fun _ h => absurd h List.not_mem_nil)

def tX6_giveUp : List (Nat × (Instr × Nat)) := [(0, (.aload_n 0, 1)), (1, (.getfield 35, 3)), (4, (.iload_n 1, 1)), (5, (.iconst 0, 1)), (6, (.iastore, 1)), (7, (.aload_n 0, 1)), (8, (.getfield 25, 3)), (11, (.iload_n 2, 1)), (12, (.iconst 3, 1)), (13, (.iastore, 1)), (14, (.aload_n 0, 1)), (15, (.getfield 29, 3)), (18, (.iload_n 2, 1)), (19, (.iload_n 3, 1)), (20, (.iastore, 1)), (21, (.aload_n 0, 1)), (22, (.dup, 1)), (23, (.getfield 61, 3)), (26, (.iconst 1, 1)), (27, (.iadd, 1)), (28, (.putfield 61, 3)), (31, (.aload_n 0, 1)), (32, (.getfield 21, 3)), (35, (.iload_n 2, 1)), (36, (.iload_n 3, 1)), (37, (.invokevirtual 151, 3)), (40, (.return_, 1))]
def fX6_giveUp : List (Nat × (Nat × Nat)) := [(35, (5, 14)), (25, (5, 11)), (29, (5, 12)), (61, (5, 5)), (21, (5, 1))]
def qX6_giveUp : List (Nat × (Int32 ⊕ Int64)) := []
noncomputable def lX6_giveUp : List (Nat × (Nat × (Option Nat × pFN))) := [(151, (3, (some 3, kX3_note)))]
noncomputable def kX6_giveUp : pFN := pm_met shX (some 5) tX6_giveUp fX6_giveUp qX6_giveUp lX6_giveUp 4 0
def mX6_giveUp : Room := { frames := 1, cells := 0, slots := 0, locals := 22 }
set_option maxRecDepth 100000 in
theorem tX6_giveUp_ok : ∀ q ∈ tX6_giveUp, decode cX6_giveUp q.1 = .ok q.2 ∧ pm_tok q.1 q.2.1 q.2.2 = true := by decide +kernel
set_option maxRecDepth 100000 in
theorem fX6_giveUp_ok : ∀ q ∈ fX6_giveUp, pm_Fok wsX6_giveUp yX6_giveUp.cls q.1 q.2.1 q.2.2 := List.forall_mem_cons.mpr ⟨⟨(RX6, TX6, 17), rfl, by decide, by decide +kernel, fun w h => List.mem_cons_of_mem _ (List.mem_append_left _ (List.mem_append_right _ h))⟩, List.forall_mem_cons.mpr ⟨⟨(RX6, TX6, 17), rfl, by decide, by decide +kernel, fun w h => List.mem_cons_of_mem _ (List.mem_append_left _ (List.mem_append_right _ h))⟩, List.forall_mem_cons.mpr ⟨⟨(RX6, TX6, 17), rfl, by decide, by decide +kernel, fun w h => List.mem_cons_of_mem _ (List.mem_append_left _ (List.mem_append_right _ h))⟩, List.forall_mem_cons.mpr ⟨⟨(RX6, TX6, 17), rfl, by decide, by decide +kernel, fun w h => List.mem_cons_of_mem _ (List.mem_append_left _ (List.mem_append_right _ h))⟩, List.forall_mem_cons.mpr ⟨⟨(RX6, TX6, 17), rfl, by decide, by decide +kernel, fun w h => List.mem_cons_of_mem _ (List.mem_append_left _ (List.mem_append_right _ h))⟩, fun _ h => absurd h List.not_mem_nil⟩⟩⟩⟩⟩
set_option maxRecDepth 100000 in
theorem qX6_giveUp_ok : ∀ q ∈ qX6_giveUp, pm_Kok wsX6_giveUp yX6_giveUp.cls q.1 q.2 := fun _ h => absurd h List.not_mem_nil
set_option maxRecDepth 100000 in
theorem conX6_giveUp (l : Launch) : pm_Con l yX6_giveUp wsX6_giveUp mX6_giveUp shX 288 kX6_giveUp := pm_met_con (cc := cX6_giveUp) (by decide +kernel) rfl shX_N tX6_giveUp_ok fX6_giveUp_ok qX6_giveUp_ok (List.forall_mem_cons.mpr ⟨⟨yX3_note, wsX3_note, _, mX3_note, cX3_note, 3, pm_rt 0, (RX3, TX3, 3), conX3_note l, pm_met_recv, rfl, gX6_giveUp_X3_note, rfl, rfl, rfl, by decide +kernel, by decide⟩, fun _ h => absurd h List.not_mem_nil⟩)

def tX6_wakeThoseWaitingFor : List (Nat × (Instr × Nat)) := [(0, (.iconst 0, 1)), (1, (.istore_n 2, 1)), (2, (.iload_n 2, 1)), (3, (.aload_n 0, 1)), (4, (.getfield 12, 3)), (7, (.getfield 103, 3)), (10, (.if_icmp .ge 48, 3)), (13, (.aload_n 0, 1)), (14, (.getfield 25, 3)), (17, (.iload_n 2, 1)), (18, (.iaload, 1)), (19, (.iconst 3, 1)), (20, (.if_icmp .ne 32, 3)), (23, (.aload_n 0, 1)), (24, (.getfield 29, 3)), (27, (.iload_n 2, 1)), (28, (.iaload, 1)), (29, (.iload_n 1, 1)), (30, (.if_icmp .ne 22, 3)), (33, (.aload_n 0, 1)), (34, (.getfield 25, 3)), (37, (.iload_n 2, 1)), (38, (.iconst 0, 1)), (39, (.iastore, 1)), (40, (.aload_n 0, 1)), (41, (.aload_n 0, 1)), (42, (.getfield 74, 3)), (45, (.iload_n 2, 1)), (46, (.invokestatic 163, 3)), (49, (.putfield 74, 3)), (52, (.iinc 2 1, 3)), (55, (.goto (-53), 3)), (58, (.return_, 1))]
def fX6_wakeThoseWaitingFor : List (Nat × (Nat × Nat)) := [(12, (5, 0)), (103, (1, 2)), (25, (5, 11)), (29, (5, 12)), (74, (5, 9))]
def qX6_wakeThoseWaitingFor : List (Nat × (Int32 ⊕ Int64)) := []
noncomputable def lX6_wakeThoseWaitingFor : List (Nat × (Nat × (Option Nat × pFN))) := [(163, (2, (none, pm_min)))]
noncomputable def kX6_wakeThoseWaitingFor : pFN := pm_met shX (some 5) tX6_wakeThoseWaitingFor fX6_wakeThoseWaitingFor qX6_wakeThoseWaitingFor lX6_wakeThoseWaitingFor 3 0
def mX6_wakeThoseWaitingFor : Room := { frames := 1, cells := 0, slots := 0, locals := 21 }
set_option maxRecDepth 100000 in
theorem tX6_wakeThoseWaitingFor_ok : ∀ q ∈ tX6_wakeThoseWaitingFor, decode cX6_wakeThoseWaitingFor q.1 = .ok q.2 ∧ pm_tok q.1 q.2.1 q.2.2 = true := by decide +kernel
set_option maxRecDepth 100000 in
theorem fX6_wakeThoseWaitingFor_ok : ∀ q ∈ fX6_wakeThoseWaitingFor, pm_Fok wsX6_wakeThoseWaitingFor yX6_wakeThoseWaitingFor.cls q.1 q.2.1 q.2.2 := List.forall_mem_cons.mpr ⟨⟨(RX6, TX6, 17), rfl, by decide, by decide +kernel, fun w h => List.mem_cons_of_mem _ (List.mem_append_left _ (List.mem_append_right _ h))⟩, List.forall_mem_cons.mpr ⟨⟨(RX1, TX1, 3), rfl, by decide, by decide +kernel, fun w h => List.mem_cons_of_mem _ (List.mem_append_right _ h)⟩, List.forall_mem_cons.mpr ⟨⟨(RX6, TX6, 17), rfl, by decide, by decide +kernel, fun w h => List.mem_cons_of_mem _ (List.mem_append_left _ (List.mem_append_right _ h))⟩, List.forall_mem_cons.mpr ⟨⟨(RX6, TX6, 17), rfl, by decide, by decide +kernel, fun w h => List.mem_cons_of_mem _ (List.mem_append_left _ (List.mem_append_right _ h))⟩, List.forall_mem_cons.mpr ⟨⟨(RX6, TX6, 17), rfl, by decide, by decide +kernel, fun w h => List.mem_cons_of_mem _ (List.mem_append_left _ (List.mem_append_right _ h))⟩, fun _ h => absurd h List.not_mem_nil⟩⟩⟩⟩⟩
set_option maxRecDepth 100000 in
theorem qX6_wakeThoseWaitingFor_ok : ∀ q ∈ qX6_wakeThoseWaitingFor, pm_Kok wsX6_wakeThoseWaitingFor yX6_wakeThoseWaitingFor.cls q.1 q.2 := fun _ h => absurd h List.not_mem_nil
set_option maxRecDepth 100000 in
theorem conX6_wakeThoseWaitingFor (l : Launch) : pm_Con l yX6_wakeThoseWaitingFor wsX6_wakeThoseWaitingFor mX6_wakeThoseWaitingFor shX 288 kX6_wakeThoseWaitingFor := pm_met_con (cc := cX6_wakeThoseWaitingFor) (by decide +kernel) rfl shX_N tX6_wakeThoseWaitingFor_ok fX6_wakeThoseWaitingFor_ok qX6_wakeThoseWaitingFor_ok (List.forall_mem_cons.mpr ⟨Or.inr (Or.inr ⟨rfl, rfl, by decide +kernel, by decide +kernel, by decide +kernel, List.mem_cons_of_mem _ (by decide +kernel), by decide, by decide⟩), fun _ h => absurd h List.not_mem_nil⟩)

def tX6_giveLook : List (Nat × (Instr × Nat)) := [(0, (.aload_n 0, 1)), (1, (.getfield 35, 3)), (4, (.iload_n 1, 1)), (5, (.iconst 2, 1)), (6, (.iastore, 1)), (7, (.aload_n 0, 1)), (8, (.getfield 38, 3)), (11, (.iload_n 1, 1)), (12, (.iload_n 2, 1)), (13, (.iastore, 1)), (14, (.aload_n 0, 1)), (15, (.getfield 41, 3)), (18, (.iload_n 1, 1)), (19, (.aload_n 0, 1)), (20, (.getfield 32, 3)), (23, (.iload_n 2, 1)), (24, (.iaload, 1)), (25, (.iastore, 1)), (26, (.return_, 1))]
def fX6_giveLook : List (Nat × (Nat × Nat)) := [(35, (5, 14)), (38, (5, 15)), (41, (5, 16)), (32, (5, 13))]
def qX6_giveLook : List (Nat × (Int32 ⊕ Int64)) := []
noncomputable def lX6_giveLook : List (Nat × (Nat × (Option Nat × pFN))) := []
noncomputable def kX6_giveLook : pFN := pm_met shX (some 5) tX6_giveLook fX6_giveLook qX6_giveLook lX6_giveLook 3 0
def mX6_giveLook : Room := { frames := 0, cells := 0, slots := 0, locals := 0 }
set_option maxRecDepth 100000 in
theorem tX6_giveLook_ok : ∀ q ∈ tX6_giveLook, decode cX6_giveLook q.1 = .ok q.2 ∧ pm_tok q.1 q.2.1 q.2.2 = true := by decide +kernel
set_option maxRecDepth 100000 in
theorem fX6_giveLook_ok : ∀ q ∈ fX6_giveLook, pm_Fok wsX6_giveLook yX6_giveLook.cls q.1 q.2.1 q.2.2 := List.forall_mem_cons.mpr ⟨⟨(RX6, TX6, 17), rfl, by decide, by decide +kernel, fun w h => List.mem_cons_of_mem _ (List.mem_append_right _ h)⟩, List.forall_mem_cons.mpr ⟨⟨(RX6, TX6, 17), rfl, by decide, by decide +kernel, fun w h => List.mem_cons_of_mem _ (List.mem_append_right _ h)⟩, List.forall_mem_cons.mpr ⟨⟨(RX6, TX6, 17), rfl, by decide, by decide +kernel, fun w h => List.mem_cons_of_mem _ (List.mem_append_right _ h)⟩, List.forall_mem_cons.mpr ⟨⟨(RX6, TX6, 17), rfl, by decide, by decide +kernel, fun w h => List.mem_cons_of_mem _ (List.mem_append_right _ h)⟩, fun _ h => absurd h List.not_mem_nil⟩⟩⟩⟩
set_option maxRecDepth 100000 in
theorem qX6_giveLook_ok : ∀ q ∈ qX6_giveLook, pm_Kok wsX6_giveLook yX6_giveLook.cls q.1 q.2 := fun _ h => absurd h List.not_mem_nil
set_option maxRecDepth 100000 in
theorem conX6_giveLook (l : Launch) : pm_Con l yX6_giveLook wsX6_giveLook mX6_giveLook shX 288 kX6_giveLook := pm_met_con (cc := cX6_giveLook) (by decide +kernel) rfl shX_N tX6_giveLook_ok fX6_giveLook_ok qX6_giveLook_ok (fun _ h => absurd h List.not_mem_nil)

def tX6_end : List (Nat × (Instr × Nat)) := [(0, (.aload_n 0, 1)), (1, (.getfield 35, 3)), (4, (.iload_n 1, 1)), (5, (.iconst 0, 1)), (6, (.iastore, 1)), (7, (.aload_n 0, 1)), (8, (.getfield 12, 3)), (11, (.getfield 132, 3)), (14, (.aload_n 0, 1)), (15, (.getfield 12, 3)), (18, (.getfield 123, 3)), (21, (.iload_n 2, 1)), (22, (.aaload, 1)), (23, (.aload_n 0, 1)), (24, (.getfield 32, 3)), (27, (.iload_n 2, 1)), (28, (.iaload, 1)), (29, (.invokevirtual 154, 3)), (32, (.istore_n 3, 1)), (33, (.aload_n 0, 1)), (34, (.getfield 25, 3)), (37, (.iload_n 2, 1)), (38, (.iconst 2, 1)), (39, (.iastore, 1)), (40, (.aload_n 0, 1)), (41, (.iload_n 2, 1)), (42, (.invokevirtual 160, 3)), (45, (.aload_n 0, 1)), (46, (.getfield 77, 3)), (49, (.iload_n 2, 1)), (50, (.if_icmp .le 21, 3)), (53, (.iload_n 3, 1)), (54, (.ifCond .eq 11, 3)), (57, (.aload_n 0, 1)), (58, (.iload_n 2, 1)), (59, (.putfield 77, 3)), (62, (.goto 9, 3)), (65, (.aload_n 0, 1)), (66, (.iload_n 1, 1)), (67, (.iload_n 2, 1)), (68, (.invokevirtual 116, 3)), (71, (.return_, 1))]
def fX6_end : List (Nat × (Nat × Nat)) := [(35, (5, 14)), (12, (5, 0)), (132, (1, 0)), (123, (1, 1)), (32, (5, 13)), (25, (5, 11)), (77, (5, 10))]
def qX6_end : List (Nat × (Int32 ⊕ Int64)) := []
noncomputable def lX6_end : List (Nat × (Nat × (Option Nat × pFN))) := [(154, (3, (some 4, kX5_publish))), (160, (2, (some 5, kX6_wakeThoseWaitingFor))), (116, (3, (some 5, kX6_giveLook)))]
noncomputable def kX6_end : pFN := pm_met shX (some 5) tX6_end fX6_end qX6_end lX6_end 4 0
def mX6_end : Room := { frames := 2, cells := 0, slots := 0, locals := 46 }
set_option maxRecDepth 100000 in
theorem tX6_end_ok : ∀ q ∈ tX6_end, decode cX6_end q.1 = .ok q.2 ∧ pm_tok q.1 q.2.1 q.2.2 = true := by decide +kernel
set_option maxRecDepth 100000 in
theorem fX6_end_ok : ∀ q ∈ fX6_end, pm_Fok wsX6_end yX6_end.cls q.1 q.2.1 q.2.2 := List.forall_mem_cons.mpr ⟨⟨(RX6, TX6, 17), rfl, by decide, by decide +kernel, fun w h => List.mem_cons_of_mem _ (List.mem_append_left _ (List.mem_append_left _ (List.mem_append_left _ (List.mem_append_right _ h))))⟩, List.forall_mem_cons.mpr ⟨⟨(RX6, TX6, 17), rfl, by decide, by decide +kernel, fun w h => List.mem_cons_of_mem _ (List.mem_append_left _ (List.mem_append_left _ (List.mem_append_left _ (List.mem_append_right _ h))))⟩, List.forall_mem_cons.mpr ⟨⟨(RX1, TX1, 3), rfl, by decide, by decide +kernel, fun w h => List.mem_cons_of_mem _ (List.mem_append_left _ (List.mem_append_left _ (List.mem_append_right _ h)))⟩, List.forall_mem_cons.mpr ⟨⟨(RX1, TX1, 3), rfl, by decide, by decide +kernel, fun w h => List.mem_cons_of_mem _ (List.mem_append_left _ (List.mem_append_left _ (List.mem_append_right _ h)))⟩, List.forall_mem_cons.mpr ⟨⟨(RX6, TX6, 17), rfl, by decide, by decide +kernel, fun w h => List.mem_cons_of_mem _ (List.mem_append_left _ (List.mem_append_left _ (List.mem_append_left _ (List.mem_append_right _ h))))⟩, List.forall_mem_cons.mpr ⟨⟨(RX6, TX6, 17), rfl, by decide, by decide +kernel, fun w h => List.mem_cons_of_mem _ (List.mem_append_left _ (List.mem_append_left _ (List.mem_append_left _ (List.mem_append_right _ h))))⟩, List.forall_mem_cons.mpr ⟨⟨(RX6, TX6, 17), rfl, by decide, by decide +kernel, fun w h => List.mem_cons_of_mem _ (List.mem_append_left _ (List.mem_append_left _ (List.mem_append_left _ (List.mem_append_right _ h))))⟩, fun _ h => absurd h List.not_mem_nil⟩⟩⟩⟩⟩⟩⟩
set_option maxRecDepth 100000 in
theorem qX6_end_ok : ∀ q ∈ qX6_end, pm_Kok wsX6_end yX6_end.cls q.1 q.2 := fun _ h => absurd h List.not_mem_nil
set_option maxRecDepth 100000 in
theorem conX6_end (l : Launch) : pm_Con l yX6_end wsX6_end mX6_end shX 288 kX6_end := pm_met_con (cc := cX6_end) (by decide +kernel) rfl shX_N tX6_end_ok fX6_end_ok qX6_end_ok (List.forall_mem_cons.mpr ⟨⟨yX5_publish, wsX5_publish, _, mX5_publish, cX5_publish, 6, pm_rt 2, (RX5, TX5, 4), conX5_publish l, pm_met_recv, rfl, gX6_end_X5_publish, rfl, rfl, rfl, by decide +kernel, by decide⟩, List.forall_mem_cons.mpr ⟨⟨yX6_wakeThoseWaitingFor, wsX6_wakeThoseWaitingFor, _, mX6_wakeThoseWaitingFor, cX6_wakeThoseWaitingFor, 3, pm_rt 0, (RX6, TX6, 17), conX6_wakeThoseWaitingFor l, pm_met_recv, rfl, gX6_end_X6_wakeThoseWaitingFor, rfl, rfl, rfl, by decide +kernel, by decide⟩, List.forall_mem_cons.mpr ⟨⟨yX6_giveLook, wsX6_giveLook, _, mX6_giveLook, cX6_giveLook, 3, pm_rt 0, (RX6, TX6, 17), conX6_giveLook l, pm_met_recv, rfl, gX6_end_X6_giveLook, rfl, rfl, rfl, by decide +kernel, by decide⟩, fun _ h => absurd h List.not_mem_nil⟩⟩⟩)

def tX6_goOn : List (Nat × (Instr × Nat)) := [(0, (.aload_n 0, 1)), (1, (.getfield 38, 3)), (4, (.iload_n 1, 1)), (5, (.iaload, 1)), (6, (.istore_n 3, 1)), (7, (.aload_n 0, 1)), (8, (.getfield 12, 3)), (11, (.getfield 123, 3)), (14, (.iload_n 3, 1)), (15, (.aaload, 1)), (16, (.astore 4, 2)), (18, (.aload 4, 2)), (20, (.aload_n 2, 1)), (21, (.aload_n 0, 1)), (22, (.getfield 12, 3)), (25, (.getfield 132, 3)), (28, (.invokevirtual 136, 3)), (31, (.istore 5, 2)), (33, (.iload 5, 2)), (35, (.iconst (-1), 1)), (36, (.if_icmp .eq 14, 3)), (39, (.aload_n 0, 1)), (40, (.iload_n 1, 1)), (41, (.iload_n 3, 1)), (42, (.iload 5, 2)), (44, (.invokevirtual 140, 3)), (47, (.goto 18, 3)), (50, (.aload 4, 2)), (52, (.aload_n 2, 1)), (53, (.invokevirtual 144, 3)), (56, (.ifCond .eq 9, 3)), (59, (.aload_n 0, 1)), (60, (.iload_n 1, 1)), (61, (.iload_n 3, 1)), (62, (.invokevirtual 148, 3)), (65, (.return_, 1))]
def fX6_goOn : List (Nat × (Nat × Nat)) := [(38, (5, 15)), (12, (5, 0)), (123, (1, 1)), (132, (1, 0))]
def qX6_goOn : List (Nat × (Int32 ⊕ Int64)) := []
noncomputable def lX6_goOn : List (Nat × (Nat × (Option Nat × pFN))) := [(136, (3, (some 0, kX0_doNext))), (140, (4, (some 5, kX6_giveUp))), (144, (2, (some 0, kX0_isOver))), (148, (3, (some 5, kX6_end)))]
noncomputable def kX6_goOn : pFN := pm_met shX (some 5) tX6_goOn fX6_goOn qX6_goOn lX6_goOn 6 0
def mX6_goOn : Room := { frames := 3, cells := 0, slots := 0, locals := 78 }
set_option maxRecDepth 100000 in
theorem tX6_goOn_ok : ∀ q ∈ tX6_goOn, decode cX6_goOn q.1 = .ok q.2 ∧ pm_tok q.1 q.2.1 q.2.2 = true := by decide +kernel
set_option maxRecDepth 100000 in
theorem fX6_goOn_ok : ∀ q ∈ fX6_goOn, pm_Fok wsX6_goOn yX6_goOn.cls q.1 q.2.1 q.2.2 := List.forall_mem_cons.mpr ⟨⟨(RX6, TX6, 17), rfl, by decide, by decide +kernel, fun w h => List.mem_cons_of_mem _ (List.mem_append_left _ (List.mem_append_left _ (List.mem_append_left _ (List.mem_append_left _ (List.mem_append_left _ (List.mem_append_right _ h))))))⟩, List.forall_mem_cons.mpr ⟨⟨(RX6, TX6, 17), rfl, by decide, by decide +kernel, fun w h => List.mem_cons_of_mem _ (List.mem_append_left _ (List.mem_append_left _ (List.mem_append_left _ (List.mem_append_left _ (List.mem_append_left _ (List.mem_append_right _ h))))))⟩, List.forall_mem_cons.mpr ⟨⟨(RX1, TX1, 3), rfl, by decide, by decide +kernel, fun w h => List.mem_cons_of_mem _ (List.mem_append_left _ (List.mem_append_left _ (List.mem_append_left _ (List.mem_append_left _ (List.mem_append_right _ h)))))⟩, List.forall_mem_cons.mpr ⟨⟨(RX1, TX1, 3), rfl, by decide, by decide +kernel, fun w h => List.mem_cons_of_mem _ (List.mem_append_left _ (List.mem_append_left _ (List.mem_append_left _ (List.mem_append_left _ (List.mem_append_right _ h)))))⟩, fun _ h => absurd h List.not_mem_nil⟩⟩⟩⟩
set_option maxRecDepth 100000 in
theorem qX6_goOn_ok : ∀ q ∈ qX6_goOn, pm_Kok wsX6_goOn yX6_goOn.cls q.1 q.2 := fun _ h => absurd h List.not_mem_nil
set_option maxRecDepth 100000 in
theorem conX6_goOn (l : Launch) : pm_Con l yX6_goOn wsX6_goOn mX6_goOn shX 288 kX6_goOn := pm_met_con (cc := cX6_goOn) (by decide +kernel) rfl shX_N tX6_goOn_ok fX6_goOn_ok qX6_goOn_ok (List.forall_mem_cons.mpr ⟨⟨yX0_doNext, wsX0_doNext, _, mX0_doNext, cX0_doNext, 10, pm_rt 1, (RX0, TX0, 18), conX0_doNext l, pm_met_recv, rfl, gX6_goOn_X0_doNext, rfl, rfl, rfl, by decide +kernel, by decide⟩, List.forall_mem_cons.mpr ⟨⟨yX6_giveUp, wsX6_giveUp, _, mX6_giveUp, cX6_giveUp, 4, pm_rt 0, (RX6, TX6, 17), conX6_giveUp l, pm_met_recv, rfl, gX6_goOn_X6_giveUp, rfl, rfl, rfl, by decide +kernel, by decide⟩, List.forall_mem_cons.mpr ⟨⟨yX0_isOver, wsX0_isOver, _, mX0_isOver, cX0_isOver, 2, pm_rt 2, (RX0, TX0, 18), conX0_isOver l, pm_met_recv, rfl, gX6_goOn_X0_isOver, rfl, rfl, rfl, by decide +kernel, by decide⟩, List.forall_mem_cons.mpr ⟨⟨yX6_end, wsX6_end, _, mX6_end, cX6_end, 4, pm_rt 0, (RX6, TX6, 17), conX6_end l, pm_met_recv, rfl, gX6_goOn_X6_end, rfl, rfl, rfl, by decide +kernel, by decide⟩, fun _ h => absurd h List.not_mem_nil⟩⟩⟩⟩)

def tX6_undo : List (Nat × (Instr × Nat)) := [(0, (.aload_n 0, 1)), (1, (.dup, 1)), (2, (.getfield 58, 3)), (5, (.iconst 1, 1)), (6, (.iadd, 1)), (7, (.putfield 58, 3)), (10, (.aload_n 0, 1)), (11, (.getfield 12, 3)), (14, (.getfield 132, 3)), (17, (.iload_n 1, 1)), (18, (.invokevirtual 179, 3)), (21, (.aload_n 0, 1)), (22, (.getfield 32, 3)), (25, (.iload_n 1, 1)), (26, (.dup2, 1)), (27, (.iaload, 1)), (28, (.iconst 1, 1)), (29, (.iadd, 1)), (30, (.iastore, 1)), (31, (.aload_n 0, 1)), (32, (.getfield 25, 3)), (35, (.iload_n 1, 1)), (36, (.iconst 0, 1)), (37, (.iastore, 1)), (38, (.aload_n 0, 1)), (39, (.aload_n 0, 1)), (40, (.getfield 77, 3)), (43, (.iload_n 1, 1)), (44, (.iconst 1, 1)), (45, (.iadd, 1)), (46, (.invokestatic 163, 3)), (49, (.putfield 77, 3)), (52, (.aload_n 0, 1)), (53, (.aload_n 0, 1)), (54, (.getfield 32, 3)), (57, (.iload_n 1, 1)), (58, (.iaload, 1)), (59, (.aload_n 0, 1)), (60, (.getfield 71, 3)), (63, (.if_icmp .lt 7, 3)), (66, (.iconst 1, 1)), (67, (.goto 4, 3)), (70, (.iconst 0, 1)), (71, (.putfield 64, 3)), (74, (.return_, 1))]
def fX6_undo : List (Nat × (Nat × Nat)) := [(58, (5, 4)), (12, (5, 0)), (132, (1, 0)), (32, (5, 13)), (25, (5, 11)), (77, (5, 10)), (71, (5, 8)), (64, (5, 6))]
def qX6_undo : List (Nat × (Int32 ⊕ Int64)) := []
noncomputable def lX6_undo : List (Nat × (Nat × (Option Nat × pFN))) := [(179, (2, (some 4, kX5_doubt))), (163, (2, (none, pm_min)))]
noncomputable def kX6_undo : pFN := pm_met shX (some 5) tX6_undo fX6_undo qX6_undo lX6_undo 2 0
def mX6_undo : Room := { frames := 1, cells := 0, slots := 0, locals := 22 }
set_option maxRecDepth 100000 in
theorem tX6_undo_ok : ∀ q ∈ tX6_undo, decode cX6_undo q.1 = .ok q.2 ∧ pm_tok q.1 q.2.1 q.2.2 = true := by decide +kernel
set_option maxRecDepth 100000 in
theorem fX6_undo_ok : ∀ q ∈ fX6_undo, pm_Fok wsX6_undo yX6_undo.cls q.1 q.2.1 q.2.2 := List.forall_mem_cons.mpr ⟨⟨(RX6, TX6, 17), rfl, by decide, by decide +kernel, fun w h => List.mem_cons_of_mem _ (List.mem_append_left _ (List.mem_append_left _ (List.mem_append_right _ h)))⟩, List.forall_mem_cons.mpr ⟨⟨(RX6, TX6, 17), rfl, by decide, by decide +kernel, fun w h => List.mem_cons_of_mem _ (List.mem_append_left _ (List.mem_append_left _ (List.mem_append_right _ h)))⟩, List.forall_mem_cons.mpr ⟨⟨(RX1, TX1, 3), rfl, by decide, by decide +kernel, fun w h => List.mem_cons_of_mem _ (List.mem_append_left _ (List.mem_append_right _ h))⟩, List.forall_mem_cons.mpr ⟨⟨(RX6, TX6, 17), rfl, by decide, by decide +kernel, fun w h => List.mem_cons_of_mem _ (List.mem_append_left _ (List.mem_append_left _ (List.mem_append_right _ h)))⟩, List.forall_mem_cons.mpr ⟨⟨(RX6, TX6, 17), rfl, by decide, by decide +kernel, fun w h => List.mem_cons_of_mem _ (List.mem_append_left _ (List.mem_append_left _ (List.mem_append_right _ h)))⟩, List.forall_mem_cons.mpr ⟨⟨(RX6, TX6, 17), rfl, by decide, by decide +kernel, fun w h => List.mem_cons_of_mem _ (List.mem_append_left _ (List.mem_append_left _ (List.mem_append_right _ h)))⟩, List.forall_mem_cons.mpr ⟨⟨(RX6, TX6, 17), rfl, by decide, by decide +kernel, fun w h => List.mem_cons_of_mem _ (List.mem_append_left _ (List.mem_append_left _ (List.mem_append_right _ h)))⟩, List.forall_mem_cons.mpr ⟨⟨(RX6, TX6, 17), rfl, by decide, by decide +kernel, fun w h => List.mem_cons_of_mem _ (List.mem_append_left _ (List.mem_append_left _ (List.mem_append_right _ h)))⟩, fun _ h => absurd h List.not_mem_nil⟩⟩⟩⟩⟩⟩⟩⟩
set_option maxRecDepth 100000 in
theorem qX6_undo_ok : ∀ q ∈ qX6_undo, pm_Kok wsX6_undo yX6_undo.cls q.1 q.2 := fun _ h => absurd h List.not_mem_nil
set_option maxRecDepth 100000 in
theorem conX6_undo (l : Launch) : pm_Con l yX6_undo wsX6_undo mX6_undo shX 288 kX6_undo := pm_met_con (cc := cX6_undo) (by decide +kernel) rfl shX_N tX6_undo_ok fX6_undo_ok qX6_undo_ok (List.forall_mem_cons.mpr ⟨⟨yX5_doubt, wsX5_doubt, _, mX5_doubt, cX5_doubt, 3, pm_rt 0, (RX5, TX5, 4), conX5_doubt l, pm_met_recv, rfl, gX6_undo_X5_doubt, rfl, rfl, rfl, by decide +kernel, by decide⟩, List.forall_mem_cons.mpr ⟨Or.inr (Or.inr ⟨rfl, rfl, by decide +kernel, by decide +kernel, by decide +kernel, List.mem_cons_of_mem _ (by decide +kernel), by decide, by decide⟩), fun _ h => absurd h List.not_mem_nil⟩⟩)

def tX6_giveRun : List (Nat × (Instr × Nat)) := [(0, (.aload_n 0, 1)), (1, (.getfield 35, 3)), (4, (.iload_n 1, 1)), (5, (.iconst 1, 1)), (6, (.iastore, 1)), (7, (.aload_n 0, 1)), (8, (.getfield 38, 3)), (11, (.iload_n 1, 1)), (12, (.iload_n 2, 1)), (13, (.iastore, 1)), (14, (.aload_n 0, 1)), (15, (.getfield 25, 3)), (18, (.iload_n 2, 1)), (19, (.iconst 1, 1)), (20, (.iastore, 1)), (21, (.aload_n 0, 1)), (22, (.getfield 12, 3)), (25, (.getfield 123, 3)), (28, (.iload_n 2, 1)), (29, (.aaload, 1)), (30, (.invokevirtual 127, 3)), (33, (.return_, 1))]
def fX6_giveRun : List (Nat × (Nat × Nat)) := [(35, (5, 14)), (38, (5, 15)), (25, (5, 11)), (12, (5, 0)), (123, (1, 1))]
def qX6_giveRun : List (Nat × (Int32 ⊕ Int64)) := []
noncomputable def lX6_giveRun : List (Nat × (Nat × (Option Nat × pFN))) := [(127, (1, (some 0, kX0_begin)))]
noncomputable def kX6_giveRun : pFN := pm_met shX (some 5) tX6_giveRun fX6_giveRun qX6_giveRun lX6_giveRun 3 0
def mX6_giveRun : Room := { frames := 2, cells := 0, slots := 0, locals := 44 }
set_option maxRecDepth 100000 in
theorem tX6_giveRun_ok : ∀ q ∈ tX6_giveRun, decode cX6_giveRun q.1 = .ok q.2 ∧ pm_tok q.1 q.2.1 q.2.2 = true := by decide +kernel
set_option maxRecDepth 100000 in
theorem fX6_giveRun_ok : ∀ q ∈ fX6_giveRun, pm_Fok wsX6_giveRun yX6_giveRun.cls q.1 q.2.1 q.2.2 := List.forall_mem_cons.mpr ⟨⟨(RX6, TX6, 17), rfl, by decide, by decide +kernel, fun w h => List.mem_cons_of_mem _ (List.mem_append_left _ (List.mem_append_left _ (List.mem_append_right _ h)))⟩, List.forall_mem_cons.mpr ⟨⟨(RX6, TX6, 17), rfl, by decide, by decide +kernel, fun w h => List.mem_cons_of_mem _ (List.mem_append_left _ (List.mem_append_left _ (List.mem_append_right _ h)))⟩, List.forall_mem_cons.mpr ⟨⟨(RX6, TX6, 17), rfl, by decide, by decide +kernel, fun w h => List.mem_cons_of_mem _ (List.mem_append_left _ (List.mem_append_left _ (List.mem_append_right _ h)))⟩, List.forall_mem_cons.mpr ⟨⟨(RX6, TX6, 17), rfl, by decide, by decide +kernel, fun w h => List.mem_cons_of_mem _ (List.mem_append_left _ (List.mem_append_left _ (List.mem_append_right _ h)))⟩, List.forall_mem_cons.mpr ⟨⟨(RX1, TX1, 3), rfl, by decide, by decide +kernel, fun w h => List.mem_cons_of_mem _ (List.mem_append_left _ (List.mem_append_right _ h))⟩, fun _ h => absurd h List.not_mem_nil⟩⟩⟩⟩⟩
set_option maxRecDepth 100000 in
theorem qX6_giveRun_ok : ∀ q ∈ qX6_giveRun, pm_Kok wsX6_giveRun yX6_giveRun.cls q.1 q.2 := fun _ h => absurd h List.not_mem_nil
set_option maxRecDepth 100000 in
theorem conX6_giveRun (l : Launch) : pm_Con l yX6_giveRun wsX6_giveRun mX6_giveRun shX 288 kX6_giveRun := pm_met_con (cc := cX6_giveRun) (by decide +kernel) rfl shX_N tX6_giveRun_ok fX6_giveRun_ok qX6_giveRun_ok (List.forall_mem_cons.mpr ⟨⟨yX0_begin, wsX0_begin, _, mX0_begin, cX0_begin, 1, pm_rt 0, (RX0, TX0, 18), conX0_begin l, pm_met_recv, rfl, gX6_giveRun_X0_begin, rfl, rfl, rfl, by decide +kernel, by decide⟩, fun _ h => absurd h List.not_mem_nil⟩)

def tX6_look : List (Nat × (Instr × Nat)) := [(0, (.aload_n 0, 1)), (1, (.getfield 38, 3)), (4, (.iload_n 1, 1)), (5, (.iaload, 1)), (6, (.istore_n 2, 1)), (7, (.aload_n 0, 1)), (8, (.getfield 35, 3)), (11, (.iload_n 1, 1)), (12, (.iconst 0, 1)), (13, (.iastore, 1)), (14, (.aload_n 0, 1)), (15, (.dup, 1)), (16, (.getfield 55, 3)), (19, (.iconst 1, 1)), (20, (.iadd, 1)), (21, (.putfield 55, 3)), (24, (.aload_n 0, 1)), (25, (.getfield 25, 3)), (28, (.iload_n 2, 1)), (29, (.iaload, 1)), (30, (.iconst 2, 1)), (31, (.if_icmp .ne 18, 3)), (34, (.aload_n 0, 1)), (35, (.getfield 32, 3)), (38, (.iload_n 2, 1)), (39, (.iaload, 1)), (40, (.aload_n 0, 1)), (41, (.getfield 41, 3)), (44, (.iload_n 1, 1)), (45, (.iaload, 1)), (46, (.if_icmp .eq 4, 3)), (49, (.return_, 1)), (50, (.aload_n 0, 1)), (51, (.getfield 12, 3)), (54, (.getfield 123, 3)), (57, (.iload_n 2, 1)), (58, (.aaload, 1)), (59, (.aload_n 0, 1)), (60, (.getfield 12, 3)), (63, (.getfield 132, 3)), (66, (.invokevirtual 169, 3)), (69, (.istore_n 3, 1)), (70, (.iload_n 3, 1)), (71, (.iconst (-1), 1)), (72, (.if_icmp .eq 49, 3)), (75, (.aload_n 0, 1)), (76, (.getfield 21, 3)), (79, (.iload_n 2, 1)), (80, (.aload_n 0, 1)), (81, (.getfield 12, 3)), (84, (.getfield 132, 3)), (87, (.iload_n 3, 1)), (88, (.iload_n 2, 1)), (89, (.invokevirtual 173, 3)), (92, (.invokevirtual 151, 3)), (95, (.aload_n 0, 1)), (96, (.iload_n 2, 1)), (97, (.invokevirtual 176, 3)), (100, (.aload_n 0, 1)), (101, (.getfield 64, 3)), (104, (.ifCond .ne 17, 3)), (107, (.aload_n 0, 1)), (108, (.getfield 74, 3)), (111, (.iload_n 2, 1)), (112, (.if_icmp .le 9, 3)), (115, (.aload_n 0, 1)), (116, (.iload_n 1, 1)), (117, (.iload_n 2, 1)), (118, (.invokevirtual 120, 3)), (121, (.return_, 1))]
def fX6_look : List (Nat × (Nat × Nat)) := [(38, (5, 15)), (35, (5, 14)), (55, (5, 3)), (25, (5, 11)), (32, (5, 13)), (41, (5, 16)), (12, (5, 0)), (123, (1, 1)), (132, (1, 0)), (21, (5, 1)), (64, (5, 6)), (74, (5, 9))]
def qX6_look : List (Nat × (Int32 ⊕ Int64)) := []
noncomputable def lX6_look : List (Nat × (Nat × (Option Nat × pFN))) := [(169, (2, (some 0, kX0_firstChanged))), (173, (3, (some 4, kX5_writerBelow))), (151, (3, (some 3, kX3_note))), (176, (2, (some 5, kX6_undo))), (120, (3, (some 5, kX6_giveRun)))]
noncomputable def kX6_look : pFN := pm_met shX (some 5) tX6_look fX6_look qX6_look lX6_look 4 0
def mX6_look : Room := { frames := 3, cells := 0, slots := 0, locals := 66 }
set_option maxRecDepth 100000 in
theorem tX6_look_ok : ∀ q ∈ tX6_look, decode cX6_look q.1 = .ok q.2 ∧ pm_tok q.1 q.2.1 q.2.2 = true := by decide +kernel
set_option maxRecDepth 100000 in
theorem fX6_look_ok : ∀ q ∈ fX6_look, pm_Fok wsX6_look yX6_look.cls q.1 q.2.1 q.2.2 := List.forall_mem_cons.mpr ⟨⟨(RX6, TX6, 17), rfl, by decide, by decide +kernel, fun w h => List.mem_cons_of_mem _ (List.mem_append_left _ (List.mem_append_left _ (List.mem_append_left _ (List.mem_append_left _ (List.mem_append_right _ h)))))⟩, List.forall_mem_cons.mpr ⟨⟨(RX6, TX6, 17), rfl, by decide, by decide +kernel, fun w h => List.mem_cons_of_mem _ (List.mem_append_left _ (List.mem_append_left _ (List.mem_append_left _ (List.mem_append_left _ (List.mem_append_right _ h)))))⟩, List.forall_mem_cons.mpr ⟨⟨(RX6, TX6, 17), rfl, by decide, by decide +kernel, fun w h => List.mem_cons_of_mem _ (List.mem_append_left _ (List.mem_append_left _ (List.mem_append_left _ (List.mem_append_left _ (List.mem_append_right _ h)))))⟩, List.forall_mem_cons.mpr ⟨⟨(RX6, TX6, 17), rfl, by decide, by decide +kernel, fun w h => List.mem_cons_of_mem _ (List.mem_append_left _ (List.mem_append_left _ (List.mem_append_left _ (List.mem_append_left _ (List.mem_append_right _ h)))))⟩, List.forall_mem_cons.mpr ⟨⟨(RX6, TX6, 17), rfl, by decide, by decide +kernel, fun w h => List.mem_cons_of_mem _ (List.mem_append_left _ (List.mem_append_left _ (List.mem_append_left _ (List.mem_append_left _ (List.mem_append_right _ h)))))⟩, List.forall_mem_cons.mpr ⟨⟨(RX6, TX6, 17), rfl, by decide, by decide +kernel, fun w h => List.mem_cons_of_mem _ (List.mem_append_left _ (List.mem_append_left _ (List.mem_append_left _ (List.mem_append_left _ (List.mem_append_right _ h)))))⟩, List.forall_mem_cons.mpr ⟨⟨(RX6, TX6, 17), rfl, by decide, by decide +kernel, fun w h => List.mem_cons_of_mem _ (List.mem_append_left _ (List.mem_append_left _ (List.mem_append_left _ (List.mem_append_left _ (List.mem_append_right _ h)))))⟩, List.forall_mem_cons.mpr ⟨⟨(RX1, TX1, 3), rfl, by decide, by decide +kernel, fun w h => List.mem_cons_of_mem _ (List.mem_append_left _ (List.mem_append_left _ (List.mem_append_left _ (List.mem_append_right _ h))))⟩, List.forall_mem_cons.mpr ⟨⟨(RX1, TX1, 3), rfl, by decide, by decide +kernel, fun w h => List.mem_cons_of_mem _ (List.mem_append_left _ (List.mem_append_left _ (List.mem_append_left _ (List.mem_append_right _ h))))⟩, List.forall_mem_cons.mpr ⟨⟨(RX6, TX6, 17), rfl, by decide, by decide +kernel, fun w h => List.mem_cons_of_mem _ (List.mem_append_left _ (List.mem_append_left _ (List.mem_append_left _ (List.mem_append_left _ (List.mem_append_right _ h)))))⟩, List.forall_mem_cons.mpr ⟨⟨(RX6, TX6, 17), rfl, by decide, by decide +kernel, fun w h => List.mem_cons_of_mem _ (List.mem_append_left _ (List.mem_append_left _ (List.mem_append_left _ (List.mem_append_left _ (List.mem_append_right _ h)))))⟩, List.forall_mem_cons.mpr ⟨⟨(RX6, TX6, 17), rfl, by decide, by decide +kernel, fun w h => List.mem_cons_of_mem _ (List.mem_append_left _ (List.mem_append_left _ (List.mem_append_left _ (List.mem_append_left _ (List.mem_append_right _ h)))))⟩, fun _ h => absurd h List.not_mem_nil⟩⟩⟩⟩⟩⟩⟩⟩⟩⟩⟩⟩
set_option maxRecDepth 100000 in
theorem qX6_look_ok : ∀ q ∈ qX6_look, pm_Kok wsX6_look yX6_look.cls q.1 q.2 := fun _ h => absurd h List.not_mem_nil
set_option maxRecDepth 100000 in
theorem conX6_look (l : Launch) : pm_Con l yX6_look wsX6_look mX6_look shX 288 kX6_look := pm_met_con (cc := cX6_look) (by decide +kernel) rfl shX_N tX6_look_ok fX6_look_ok qX6_look_ok (List.forall_mem_cons.mpr ⟨⟨yX0_firstChanged, wsX0_firstChanged, _, mX0_firstChanged, cX0_firstChanged, 5, pm_rt 1, (RX0, TX0, 18), conX0_firstChanged l, pm_met_recv, rfl, gX6_look_X0_firstChanged, rfl, rfl, rfl, by decide +kernel, by decide⟩, List.forall_mem_cons.mpr ⟨⟨yX5_writerBelow, wsX5_writerBelow, _, mX5_writerBelow, cX5_writerBelow, 4, pm_rt 1, (RX5, TX5, 4), conX5_writerBelow l, pm_met_recv, rfl, gX6_look_X5_writerBelow, rfl, rfl, rfl, by decide +kernel, by decide⟩, List.forall_mem_cons.mpr ⟨⟨yX3_note, wsX3_note, _, mX3_note, cX3_note, 3, pm_rt 0, (RX3, TX3, 3), conX3_note l, pm_met_recv, rfl, gX6_look_X3_note, rfl, rfl, rfl, by decide +kernel, by decide⟩, List.forall_mem_cons.mpr ⟨⟨yX6_undo, wsX6_undo, _, mX6_undo, cX6_undo, 2, pm_rt 0, (RX6, TX6, 17), conX6_undo l, pm_met_recv, rfl, gX6_look_X6_undo, rfl, rfl, rfl, by decide +kernel, by decide⟩, List.forall_mem_cons.mpr ⟨⟨yX6_giveRun, wsX6_giveRun, _, mX6_giveRun, cX6_giveRun, 3, pm_rt 0, (RX6, TX6, 17), conX6_giveRun l, pm_met_recv, rfl, gX6_look_X6_giveRun, rfl, rfl, rfl, by decide +kernel, by decide⟩, fun _ h => absurd h List.not_mem_nil⟩⟩⟩⟩⟩)
end
section
def tX6_takeTask : List (Nat × (Instr × Nat)) := [(0, (.aload_n 0, 1)), (1, (.getfield 77, 3)), (4, (.aload_n 0, 1)), (5, (.getfield 74, 3)), (8, (.if_icmp .ge 37, 3)), (11, (.aload_n 0, 1)), (12, (.getfield 77, 3)), (15, (.istore_n 2, 1)), (16, (.aload_n 0, 1)), (17, (.dup, 1)), (18, (.getfield 77, 3)), (21, (.iconst 1, 1)), (22, (.iadd, 1)), (23, (.putfield 77, 3)), (26, (.aload_n 0, 1)), (27, (.getfield 25, 3)), (30, (.iload_n 2, 1)), (31, (.iaload, 1)), (32, (.iconst 2, 1)), (33, (.if_icmp .ne 9, 3)), (36, (.aload_n 0, 1)), (37, (.iload_n 1, 1)), (38, (.iload_n 2, 1)), (39, (.invokevirtual 116, 3)), (42, (.goto 47, 3)), (45, (.aload_n 0, 1)), (46, (.getfield 74, 3)), (49, (.aload_n 0, 1)), (50, (.getfield 12, 3)), (53, (.getfield 103, 3)), (56, (.if_icmp .ge 33, 3)), (59, (.aload_n 0, 1)), (60, (.getfield 74, 3)), (63, (.istore_n 2, 1)), (64, (.aload_n 0, 1)), (65, (.dup, 1)), (66, (.getfield 74, 3)), (69, (.iconst 1, 1)), (70, (.iadd, 1)), (71, (.putfield 74, 3)), (74, (.aload_n 0, 1)), (75, (.getfield 25, 3)), (78, (.iload_n 2, 1)), (79, (.iaload, 1)), (80, (.ifCond .ne 9, 3)), (83, (.aload_n 0, 1)), (84, (.iload_n 1, 1)), (85, (.iload_n 2, 1)), (86, (.invokevirtual 120, 3)), (89, (.return_, 1))]
def fX6_takeTask : List (Nat × (Nat × Nat)) := [(77, (5, 10)), (74, (5, 9)), (25, (5, 11)), (12, (5, 0)), (103, (1, 2))]
def qX6_takeTask : List (Nat × (Int32 ⊕ Int64)) := []
noncomputable def lX6_takeTask : List (Nat × (Nat × (Option Nat × pFN))) := [(116, (3, (some 5, kX6_giveLook))), (120, (3, (some 5, kX6_giveRun)))]
noncomputable def kX6_takeTask : pFN := pm_met shX (some 5) tX6_takeTask fX6_takeTask qX6_takeTask lX6_takeTask 3 0
def mX6_takeTask : Room := { frames := 3, cells := 0, slots := 0, locals := 66 }
set_option maxRecDepth 100000 in
theorem tX6_takeTask_ok : ∀ q ∈ tX6_takeTask, decode cX6_takeTask q.1 = .ok q.2 ∧ pm_tok q.1 q.2.1 q.2.2 = true := by decide +kernel
set_option maxRecDepth 100000 in
theorem fX6_takeTask_ok : ∀ q ∈ fX6_takeTask, pm_Fok wsX6_takeTask yX6_takeTask.cls q.1 q.2.1 q.2.2 := List.forall_mem_cons.mpr ⟨⟨(RX6, TX6, 17), rfl, by decide, by decide +kernel, fun w h => List.mem_cons_of_mem _ (List.mem_append_left _ (List.mem_append_left _ (List.mem_append_right _ h)))⟩, List.forall_mem_cons.mpr ⟨⟨(RX6, TX6, 17), rfl, by decide, by decide +kernel, fun w h => List.mem_cons_of_mem _ (List.mem_append_left _ (List.mem_append_left _ (List.mem_append_right _ h)))⟩, List.forall_mem_cons.mpr ⟨⟨(RX6, TX6, 17), rfl, by decide, by decide +kernel, fun w h => List.mem_cons_of_mem _ (List.mem_append_left _ (List.mem_append_left _ (List.mem_append_right _ h)))⟩, List.forall_mem_cons.mpr ⟨⟨(RX6, TX6, 17), rfl, by decide, by decide +kernel, fun w h => List.mem_cons_of_mem _ (List.mem_append_left _ (List.mem_append_left _ (List.mem_append_right _ h)))⟩, List.forall_mem_cons.mpr ⟨⟨(RX1, TX1, 3), rfl, by decide, by decide +kernel, fun w h => List.mem_cons_of_mem _ (List.mem_append_left _ (List.mem_append_right _ h))⟩, fun _ h => absurd h List.not_mem_nil⟩⟩⟩⟩⟩
set_option maxRecDepth 100000 in
theorem qX6_takeTask_ok : ∀ q ∈ qX6_takeTask, pm_Kok wsX6_takeTask yX6_takeTask.cls q.1 q.2 := fun _ h => absurd h List.not_mem_nil
set_option maxRecDepth 100000 in
theorem conX6_takeTask (l : Launch) : pm_Con l yX6_takeTask wsX6_takeTask mX6_takeTask shX 288 kX6_takeTask := pm_met_con (cc := cX6_takeTask) (by decide +kernel) rfl shX_N tX6_takeTask_ok fX6_takeTask_ok qX6_takeTask_ok (List.forall_mem_cons.mpr ⟨⟨yX6_giveLook, wsX6_giveLook, _, mX6_giveLook, cX6_giveLook, 3, pm_rt 0, (RX6, TX6, 17), conX6_giveLook l, pm_met_recv, rfl, gX6_takeTask_X6_giveLook, rfl, rfl, rfl, by decide +kernel, by decide⟩, List.forall_mem_cons.mpr ⟨⟨yX6_giveRun, wsX6_giveRun, _, mX6_giveRun, cX6_giveRun, 3, pm_rt 0, (RX6, TX6, 17), conX6_giveRun l, pm_met_recv, rfl, gX6_takeTask_X6_giveRun, rfl, rfl, rfl, by decide +kernel, by decide⟩, fun _ h => absurd h List.not_mem_nil⟩⟩)

def tX6_step : List (Nat × (Instr × Nat)) := [(0, (.aload_n 0, 1)), (1, (.getfield 35, 3)), (4, (.iload_n 1, 1)), (5, (.iaload, 1)), (6, (.lookupswitch 43 #[(1, 26), (2, 35)], 26)), (32, (.aload_n 0, 1)), (33, (.iload_n 1, 1)), (34, (.aload_n 2, 1)), (35, (.invokevirtual 106, 3)), (38, (.goto 16, 3)), (41, (.aload_n 0, 1)), (42, (.iload_n 1, 1)), (43, (.invokevirtual 109, 3)), (46, (.goto 8, 3)), (49, (.aload_n 0, 1)), (50, (.iload_n 1, 1)), (51, (.invokevirtual 113, 3)), (54, (.return_, 1))]
def fX6_step : List (Nat × (Nat × Nat)) := [(35, (5, 14))]
def qX6_step : List (Nat × (Int32 ⊕ Int64)) := []
noncomputable def lX6_step : List (Nat × (Nat × (Option Nat × pFN))) := [(106, (3, (some 5, kX6_goOn))), (109, (2, (some 5, kX6_look))), (113, (2, (some 5, kX6_takeTask)))]
noncomputable def kX6_step : pFN := pm_met shX (some 5) tX6_step fX6_step qX6_step lX6_step 3 0
def mX6_step : Room := { frames := 4, cells := 0, slots := 0, locals := 103 }
set_option maxRecDepth 100000 in
theorem tX6_step_ok : ∀ q ∈ tX6_step, decode cX6_step q.1 = .ok q.2 ∧ pm_tok q.1 q.2.1 q.2.2 = true := by decide +kernel
set_option maxRecDepth 100000 in
theorem fX6_step_ok : ∀ q ∈ fX6_step, pm_Fok wsX6_step yX6_step.cls q.1 q.2.1 q.2.2 := List.forall_mem_cons.mpr ⟨⟨(RX6, TX6, 17), rfl, by decide, by decide +kernel, fun w h => List.mem_cons_of_mem _ (List.mem_append_left _ (List.mem_append_left _ (List.mem_append_left _ (List.mem_append_left _ (List.mem_append_left _ (List.mem_append_right _ h))))))⟩, fun _ h => absurd h List.not_mem_nil⟩
set_option maxRecDepth 100000 in
theorem qX6_step_ok : ∀ q ∈ qX6_step, pm_Kok wsX6_step yX6_step.cls q.1 q.2 := fun _ h => absurd h List.not_mem_nil
set_option maxRecDepth 100000 in
theorem conX6_step (l : Launch) : pm_Con l yX6_step wsX6_step mX6_step shX 288 kX6_step := pm_met_con (cc := cX6_step) (by decide +kernel) rfl shX_N tX6_step_ok fX6_step_ok qX6_step_ok (List.forall_mem_cons.mpr ⟨⟨yX6_goOn, wsX6_goOn, _, mX6_goOn, cX6_goOn, 6, pm_rt 0, (RX6, TX6, 17), conX6_goOn l, pm_met_recv, rfl, gX6_step_X6_goOn, rfl, rfl, rfl, by decide +kernel, by decide⟩, List.forall_mem_cons.mpr ⟨⟨yX6_look, wsX6_look, _, mX6_look, cX6_look, 4, pm_rt 0, (RX6, TX6, 17), conX6_look l, pm_met_recv, rfl, gX6_step_X6_look, rfl, rfl, rfl, by decide +kernel, by decide⟩, List.forall_mem_cons.mpr ⟨⟨yX6_takeTask, wsX6_takeTask, _, mX6_takeTask, cX6_takeTask, 3, pm_rt 0, (RX6, TX6, 17), conX6_takeTask l, pm_met_recv, rfl, gX6_step_X6_takeTask, rfl, rfl, rfl, by decide +kernel, by decide⟩, fun _ h => absurd h List.not_mem_nil⟩⟩⟩)

def tX6_work : List (Nat × (Instr × Nat)) := [(0, (.iload_n 2, 1)), (1, (.istore_n 3, 1)), (2, (.aload_n 0, 1)), (3, (.getfield 52, 3)), (6, (.ldc 86, 2)), (8, (.if_icmp .ge 60, 3)), (11, (.aload_n 0, 1)), (12, (.getfield 68, 3)), (15, (.ifCond .le 53, 3)), (18, (.aload_n 0, 1)), (19, (.getfield 64, 3)), (22, (.ifCond .ne 46, 3)), (25, (.aload_n 0, 1)), (26, (.invokevirtual 87, 3)), (29, (.ifCond .ne 39, 3)), (32, (.aload_n 0, 1)), (33, (.dup, 1)), (34, (.getfield 52, 3)), (37, (.iconst 1, 1)), (38, (.iadd, 1)), (39, (.putfield 52, 3)), (42, (.iload_n 3, 1)), (43, (.ldc 91, 2)), (45, (.imul, 1)), (46, (.sipush 12345, 3)), (49, (.iadd, 1)), (50, (.istore_n 3, 1)), (51, (.aload_n 0, 1)), (52, (.iload_n 3, 1)), (53, (.bipush 16, 2)), (55, (.iushr, 1)), (56, (.aload_n 0, 1)), (57, (.getfield 68, 3)), (60, (.irem, 1)), (61, (.aload_n 1, 1)), (62, (.invokevirtual 92, 3)), (65, (.goto (-63), 3)), (68, (.aload_n 0, 1)), (69, (.getfield 64, 3)), (72, (.ifCond .eq 11, 3)), (75, (.aload_n 0, 1)), (76, (.getfield 12, 3)), (79, (.aload_n 1, 1)), (80, (.invokevirtual 96, 3)), (83, (.aload_n 0, 1)), (84, (.getfield 12, 3)), (87, (.invokevirtual 100, 3)), (90, (.return_, 1))]
def fX6_work : List (Nat × (Nat × Nat)) := [(52, (5, 2)), (68, (5, 7)), (64, (5, 6)), (12, (5, 0))]
def qX6_work : List (Nat × (Int32 ⊕ Int64)) := [(86, .inl (1000000)), (91, .inl (1103515245))]
noncomputable def lX6_work : List (Nat × (Nat × (Option Nat × pFN))) := [(87, (1, (some 5, kX6_isDone))), (92, (3, (some 5, kX6_step))), (96, (2, (some 1, kX1_runOneByOne))), (100, (1, (some 1, kX1_formGroups)))]
noncomputable def kX6_work : pFN := pm_met shX (some 5) tX6_work fX6_work qX6_work lX6_work 4 0
def mX6_work : Room := { frames := 5, cells := 0, slots := 0, locals := 125 }
set_option maxRecDepth 100000 in
theorem tX6_work_ok : ∀ q ∈ tX6_work, decode cX6_work q.1 = .ok q.2 ∧ pm_tok q.1 q.2.1 q.2.2 = true := by decide +kernel
set_option maxRecDepth 100000 in
theorem fX6_work_ok : ∀ q ∈ fX6_work, pm_Fok wsX6_work yX6_work.cls q.1 q.2.1 q.2.2 := List.forall_mem_cons.mpr ⟨⟨(RX6, TX6, 17), rfl, by decide, by decide +kernel, fun w h => List.mem_cons_of_mem _ (List.mem_append_left _ (List.mem_append_left _ (List.mem_append_left _ (List.mem_append_left _ (List.mem_append_left _ (List.mem_append_right _ h))))))⟩, List.forall_mem_cons.mpr ⟨⟨(RX6, TX6, 17), rfl, by decide, by decide +kernel, fun w h => List.mem_cons_of_mem _ (List.mem_append_left _ (List.mem_append_left _ (List.mem_append_left _ (List.mem_append_left _ (List.mem_append_left _ (List.mem_append_right _ h))))))⟩, List.forall_mem_cons.mpr ⟨⟨(RX6, TX6, 17), rfl, by decide, by decide +kernel, fun w h => List.mem_cons_of_mem _ (List.mem_append_left _ (List.mem_append_left _ (List.mem_append_left _ (List.mem_append_left _ (List.mem_append_left _ (List.mem_append_right _ h))))))⟩, List.forall_mem_cons.mpr ⟨⟨(RX6, TX6, 17), rfl, by decide, by decide +kernel, fun w h => List.mem_cons_of_mem _ (List.mem_append_left _ (List.mem_append_left _ (List.mem_append_left _ (List.mem_append_left _ (List.mem_append_left _ (List.mem_append_right _ h))))))⟩, fun _ h => absurd h List.not_mem_nil⟩⟩⟩⟩
set_option maxRecDepth 100000 in
theorem qX6_work_ok : ∀ q ∈ qX6_work, pm_Kok wsX6_work yX6_work.cls q.1 q.2 := List.forall_mem_cons.mpr ⟨(by decide +kernel : _ ∈ wsX6_work), List.forall_mem_cons.mpr ⟨(by decide +kernel : _ ∈ wsX6_work), fun _ h => absurd h List.not_mem_nil⟩⟩
set_option maxRecDepth 100000 in
theorem conX6_work (l : Launch) : pm_Con l yX6_work wsX6_work mX6_work shX 288 kX6_work := pm_met_con (cc := cX6_work) (by decide +kernel) rfl shX_N tX6_work_ok fX6_work_ok qX6_work_ok (List.forall_mem_cons.mpr ⟨⟨yX6_isDone, wsX6_isDone, _, mX6_isDone, cX6_isDone, 2, pm_rt 2, (RX6, TX6, 17), conX6_isDone l, pm_met_recv, rfl, gX6_work_X6_isDone, rfl, rfl, rfl, by decide +kernel, by decide⟩, List.forall_mem_cons.mpr ⟨⟨yX6_step, wsX6_step, _, mX6_step, cX6_step, 3, pm_rt 0, (RX6, TX6, 17), conX6_step l, pm_met_recv, rfl, gX6_work_X6_step, rfl, rfl, rfl, by decide +kernel, by decide⟩, List.forall_mem_cons.mpr ⟨⟨yX1_runOneByOne, wsX1_runOneByOne, _, mX1_runOneByOne, cX1_runOneByOne, 5, pm_rt 0, (RX1, TX1, 3), conX1_runOneByOne l, pm_met_recv, rfl, gX6_work_X1_runOneByOne, rfl, rfl, rfl, by decide +kernel, by decide⟩, List.forall_mem_cons.mpr ⟨⟨yX1_formGroups, wsX1_formGroups, _, mX1_formGroups, cX1_formGroups, 2, pm_rt 0, (RX1, TX1, 3), conX1_formGroups l, pm_met_recv, rfl, gX6_work_X1_formGroups, rfl, rfl, rfl, by decide +kernel, by decide⟩, fun _ h => absurd h List.not_mem_nil⟩⟩⟩⟩)

def tX6_tell : List (Nat × (Instr × Nat)) := [(0, (.iload_n 1, 1)), (1, (.tableswitch 104 0 7 #[47, 52, 65, 70, 75, 80, 88, 96], 47)), (48, (.aload_n 0, 1)), (49, (.getfield 52, 3)), (52, (.ireturn, 1)), (53, (.aload_n 0, 1)), (54, (.getfield 64, 3)), (57, (.ifCond .eq 7, 3)), (60, (.iconst 1, 1)), (61, (.goto 4, 3)), (64, (.iconst 0, 1)), (65, (.ireturn, 1)), (66, (.aload_n 0, 1)), (67, (.getfield 55, 3)), (70, (.ireturn, 1)), (71, (.aload_n 0, 1)), (72, (.getfield 58, 3)), (75, (.ireturn, 1)), (76, (.aload_n 0, 1)), (77, (.getfield 61, 3)), (80, (.ireturn, 1)), (81, (.aload_n 0, 1)), (82, (.getfield 12, 3)), (85, (.invokevirtual 182, 3)), (88, (.ireturn, 1)), (89, (.aload_n 0, 1)), (90, (.getfield 12, 3)), (93, (.invokevirtual 186, 3)), (96, (.ireturn, 1)), (97, (.aload_n 0, 1)), (98, (.getfield 12, 3)), (101, (.getfield 103, 3)), (104, (.ireturn, 1)), (105, (.iconst (-1), 1)), (106, (.ireturn, 1))]
def fX6_tell : List (Nat × (Nat × Nat)) := [(52, (5, 2)), (64, (5, 6)), (55, (5, 3)), (58, (5, 4)), (61, (5, 5)), (12, (5, 0)), (103, (1, 2))]
def qX6_tell : List (Nat × (Int32 ⊕ Int64)) := []
noncomputable def lX6_tell : List (Nat × (Nat × (Option Nat × pFN))) := [(182, (1, (some 1, kX1_countActs))), (186, (1, (some 1, kX1_countGroups)))]
noncomputable def kX6_tell : pFN := pm_met shX (some 5) tX6_tell fX6_tell qX6_tell lX6_tell 2 1
def mX6_tell : Room := { frames := 1, cells := 0, slots := 0, locals := 22 }
set_option maxRecDepth 100000 in
theorem tX6_tell_ok : ∀ q ∈ tX6_tell, decode cX6_tell q.1 = .ok q.2 ∧ pm_tok q.1 q.2.1 q.2.2 = true := by decide +kernel
set_option maxRecDepth 100000 in
theorem fX6_tell_ok : ∀ q ∈ fX6_tell, pm_Fok wsX6_tell yX6_tell.cls q.1 q.2.1 q.2.2 := List.forall_mem_cons.mpr ⟨⟨(RX6, TX6, 17), rfl, by decide, by decide +kernel, fun w h => List.mem_cons_of_mem _ (List.mem_append_left _ (List.mem_append_left _ (List.mem_append_right _ h)))⟩, List.forall_mem_cons.mpr ⟨⟨(RX6, TX6, 17), rfl, by decide, by decide +kernel, fun w h => List.mem_cons_of_mem _ (List.mem_append_left _ (List.mem_append_left _ (List.mem_append_right _ h)))⟩, List.forall_mem_cons.mpr ⟨⟨(RX6, TX6, 17), rfl, by decide, by decide +kernel, fun w h => List.mem_cons_of_mem _ (List.mem_append_left _ (List.mem_append_left _ (List.mem_append_right _ h)))⟩, List.forall_mem_cons.mpr ⟨⟨(RX6, TX6, 17), rfl, by decide, by decide +kernel, fun w h => List.mem_cons_of_mem _ (List.mem_append_left _ (List.mem_append_left _ (List.mem_append_right _ h)))⟩, List.forall_mem_cons.mpr ⟨⟨(RX6, TX6, 17), rfl, by decide, by decide +kernel, fun w h => List.mem_cons_of_mem _ (List.mem_append_left _ (List.mem_append_left _ (List.mem_append_right _ h)))⟩, List.forall_mem_cons.mpr ⟨⟨(RX6, TX6, 17), rfl, by decide, by decide +kernel, fun w h => List.mem_cons_of_mem _ (List.mem_append_left _ (List.mem_append_left _ (List.mem_append_right _ h)))⟩, List.forall_mem_cons.mpr ⟨⟨(RX1, TX1, 3), rfl, by decide, by decide +kernel, fun w h => List.mem_cons_of_mem _ (List.mem_append_left _ (List.mem_append_right _ h))⟩, fun _ h => absurd h List.not_mem_nil⟩⟩⟩⟩⟩⟩⟩
set_option maxRecDepth 100000 in
theorem qX6_tell_ok : ∀ q ∈ qX6_tell, pm_Kok wsX6_tell yX6_tell.cls q.1 q.2 := fun _ h => absurd h List.not_mem_nil
set_option maxRecDepth 100000 in
theorem conX6_tell (l : Launch) : pm_Con l yX6_tell wsX6_tell mX6_tell shX 288 kX6_tell := pm_met_con (cc := cX6_tell) (by decide +kernel) rfl shX_N tX6_tell_ok fX6_tell_ok qX6_tell_ok (List.forall_mem_cons.mpr ⟨⟨yX1_countActs, wsX1_countActs, _, mX1_countActs, cX1_countActs, 3, pm_rt 1, (RX1, TX1, 3), conX1_countActs l, pm_met_recv, rfl, gX6_tell_X1_countActs, rfl, rfl, rfl, by decide +kernel, by decide⟩, List.forall_mem_cons.mpr ⟨⟨yX1_countGroups, wsX1_countGroups, _, mX1_countGroups, cX1_countGroups, 3, pm_rt 1, (RX1, TX1, 3), conX1_countGroups l, pm_met_recv, rfl, gX6_tell_X1_countGroups, rfl, rfl, rfl, by decide +kernel, by decide⟩, fun _ h => absurd h List.not_mem_nil⟩⟩)

def tX7_call : List (Nat × (Instr × Nat)) := [(0, (.aload_n 0, 1)), (1, (.getfield 16, 3)), (4, (.invokevirtual 38, 3)), (7, (.ireturn, 1))]
def fX7_call : List (Nat × (Nat × Nat)) := [(16, (6, 1))]
def qX7_call : List (Nat × (Int32 ⊕ Int64)) := []
noncomputable def lX7_call : List (Nat × (Nat × (Option Nat × pFN))) := [(38, (1, (some 2, kX2_addCall)))]
noncomputable def kX7_call : pFN := pm_met shX (some 6) tX7_call fX7_call qX7_call lX7_call 1 1
def mX7_call : Room := { frames := 1, cells := 0, slots := 0, locals := 20 }
set_option maxRecDepth 100000 in
theorem tX7_call_ok : ∀ q ∈ tX7_call, decode cX7_call q.1 = .ok q.2 ∧ pm_tok q.1 q.2.1 q.2.2 = true := by decide +kernel
set_option maxRecDepth 100000 in
theorem fX7_call_ok : ∀ q ∈ fX7_call, pm_Fok wsX7_call yX7_call.cls q.1 q.2.1 q.2.2 := List.forall_mem_cons.mpr ⟨⟨(RX7, TX7, 5), rfl, by decide, by decide +kernel, fun w h => List.mem_cons_of_mem _ (List.mem_append_left _ (List.mem_append_right _ h))⟩, fun _ h => absurd h List.not_mem_nil⟩
set_option maxRecDepth 100000 in
theorem qX7_call_ok : ∀ q ∈ qX7_call, pm_Kok wsX7_call yX7_call.cls q.1 q.2 := fun _ h => absurd h List.not_mem_nil
set_option maxRecDepth 100000 in
theorem conX7_call (l : Launch) : pm_Con l yX7_call wsX7_call mX7_call shX 288 kX7_call := pm_met_con (cc := cX7_call) (by decide +kernel) rfl shX_N tX7_call_ok fX7_call_ok qX7_call_ok (List.forall_mem_cons.mpr ⟨⟨yX2_addCall, wsX2_addCall, _, mX2_addCall, cX2_addCall, 1, pm_rt 1, (RX2, TX2, 6), conX2_addCall l, pm_met_recv, rfl, gX7_call_X2_addCall, rfl, rfl, rfl, by decide +kernel, by decide⟩, fun _ h => absurd h List.not_mem_nil⟩)

def tX7_act : List (Nat × (Instr × Nat)) := [(0, (.iload_n 2, 1)), (1, (.iload_n 3, 1)), (2, (.iload 4, 2)), (4, (.lload 5, 2)), (6, (.invokestatic 42, 3)), (9, (.ifCond .ne 5, 3)), (12, (.iconst (-1), 1)), (13, (.ireturn, 1)), (14, (.aload_n 0, 1)), (15, (.getfield 16, 3)), (18, (.iload_n 1, 1)), (19, (.iload_n 2, 1)), (20, (.iload_n 3, 1)), (21, (.iload 4, 2)), (23, (.lload 5, 2)), (25, (.invokevirtual 48, 3)), (28, (.ireturn, 1))]
def fX7_act : List (Nat × (Nat × Nat)) := [(16, (6, 1))]
def qX7_act : List (Nat × (Int32 ⊕ Int64)) := []
noncomputable def lX7_act : List (Nat × (Nat × (Option Nat × pFN))) := [(42, (4, (none, kX4_allows))), (48, (6, (some 2, kX2_addAct)))]
noncomputable def kX7_act : pFN := pm_met shX (some 6) tX7_act fX7_act qX7_act lX7_act 7 1
def mX7_act : Room := { frames := 2, cells := 0, slots := 0, locals := 46 }
set_option maxRecDepth 100000 in
theorem tX7_act_ok : ∀ q ∈ tX7_act, decode cX7_act q.1 = .ok q.2 ∧ pm_tok q.1 q.2.1 q.2.2 = true := by decide +kernel
set_option maxRecDepth 100000 in
theorem fX7_act_ok : ∀ q ∈ fX7_act, pm_Fok wsX7_act yX7_act.cls q.1 q.2.1 q.2.2 := List.forall_mem_cons.mpr ⟨⟨(RX7, TX7, 5), rfl, by decide, by decide +kernel, fun w h => List.mem_cons_of_mem _ (List.mem_append_left _ (List.mem_append_right _ h))⟩, fun _ h => absurd h List.not_mem_nil⟩
set_option maxRecDepth 100000 in
theorem qX7_act_ok : ∀ q ∈ qX7_act, pm_Kok wsX7_act yX7_act.cls q.1 q.2 := fun _ h => absurd h List.not_mem_nil
set_option maxRecDepth 100000 in
theorem conX7_act (l : Launch) : pm_Con l yX7_act wsX7_act mX7_act shX 288 kX7_act := pm_met_con (cc := cX7_act) (by decide +kernel) rfl shX_N tX7_act_ok fX7_act_ok qX7_act_ok (List.forall_mem_cons.mpr ⟨Or.inl ⟨yX4_allows, wsX4_allows, _, mX4_allows, cX4_allows, 5, pm_rt 2, conX4_allows l, gX7_act_X4_allows, rfl, rfl, rfl, by decide +kernel, by decide⟩, List.forall_mem_cons.mpr ⟨⟨yX2_addAct, wsX2_addAct, _, mX2_addAct, cX2_addAct, 8, pm_rt 1, (RX2, TX2, 6), conX2_addAct l, pm_met_recv, rfl, gX7_act_X2_addAct, rfl, rfl, rfl, by decide +kernel, by decide⟩, fun _ h => absurd h List.not_mem_nil⟩⟩)

def tX7_clear : List (Nat × (Instr × Nat)) := [(0, (.aload_n 0, 1)), (1, (.getfield 16, 3)), (4, (.invokevirtual 52, 3)), (7, (.ireturn, 1))]
def fX7_clear : List (Nat × (Nat × Nat)) := [(16, (6, 1))]
def qX7_clear : List (Nat × (Int32 ⊕ Int64)) := []
noncomputable def lX7_clear : List (Nat × (Nat × (Option Nat × pFN))) := [(52, (1, (some 2, kX2_dropCalls)))]
noncomputable def kX7_clear : pFN := pm_met shX (some 6) tX7_clear fX7_clear qX7_clear lX7_clear 1 1
def mX7_clear : Room := { frames := 1, cells := 0, slots := 0, locals := 21 }
set_option maxRecDepth 100000 in
theorem tX7_clear_ok : ∀ q ∈ tX7_clear, decode cX7_clear q.1 = .ok q.2 ∧ pm_tok q.1 q.2.1 q.2.2 = true := by decide +kernel
set_option maxRecDepth 100000 in
theorem fX7_clear_ok : ∀ q ∈ fX7_clear, pm_Fok wsX7_clear yX7_clear.cls q.1 q.2.1 q.2.2 := List.forall_mem_cons.mpr ⟨⟨(RX7, TX7, 5), rfl, by decide, by decide +kernel, fun w h => List.mem_cons_of_mem _ (List.mem_append_left _ (List.mem_append_right _ h))⟩, fun _ h => absurd h List.not_mem_nil⟩
set_option maxRecDepth 100000 in
theorem qX7_clear_ok : ∀ q ∈ qX7_clear, pm_Kok wsX7_clear yX7_clear.cls q.1 q.2 := fun _ h => absurd h List.not_mem_nil
set_option maxRecDepth 100000 in
theorem conX7_clear (l : Launch) : pm_Con l yX7_clear wsX7_clear mX7_clear shX 288 kX7_clear := pm_met_con (cc := cX7_clear) (by decide +kernel) rfl shX_N tX7_clear_ok fX7_clear_ok qX7_clear_ok (List.forall_mem_cons.mpr ⟨⟨yX2_dropCalls, wsX2_dropCalls, _, mX2_dropCalls, cX2_dropCalls, 2, pm_rt 1, (RX2, TX2, 6), conX2_dropCalls l, pm_met_recv, rfl, gX7_clear_X2_dropCalls, rfl, rfl, rfl, by decide +kernel, by decide⟩, fun _ h => absurd h List.not_mem_nil⟩)

def tX7_isLeaf : List (Nat × (Instr × Nat)) := [(0, (.iload_n 0, 1)), (1, (.ifCond .lt 13, 3)), (4, (.iload_n 0, 1)), (5, (.bipush 32, 2)), (7, (.if_icmp .ge 7, 3)), (10, (.iconst 1, 1)), (11, (.goto 4, 3)), (14, (.iconst 0, 1)), (15, (.ireturn, 1))]
def fX7_isLeaf : List (Nat × (Nat × Nat)) := []
def qX7_isLeaf : List (Nat × (Int32 ⊕ Int64)) := []
noncomputable def lX7_isLeaf : List (Nat × (Nat × (Option Nat × pFN))) := []
noncomputable def kX7_isLeaf : pFN := pm_met shX (none) tX7_isLeaf fX7_isLeaf qX7_isLeaf lX7_isLeaf 1 2
def mX7_isLeaf : Room := { frames := 0, cells := 0, slots := 0, locals := 0 }
set_option maxRecDepth 100000 in
theorem tX7_isLeaf_ok : ∀ q ∈ tX7_isLeaf, decode cX7_isLeaf q.1 = .ok q.2 ∧ pm_tok q.1 q.2.1 q.2.2 = true := by decide +kernel
set_option maxRecDepth 100000 in
theorem fX7_isLeaf_ok : ∀ q ∈ fX7_isLeaf, pm_Fok wsX7_isLeaf yX7_isLeaf.cls q.1 q.2.1 q.2.2 := fun _ h => absurd h List.not_mem_nil
set_option maxRecDepth 100000 in
theorem qX7_isLeaf_ok : ∀ q ∈ qX7_isLeaf, pm_Kok wsX7_isLeaf yX7_isLeaf.cls q.1 q.2 := fun _ h => absurd h List.not_mem_nil
set_option maxRecDepth 100000 in
theorem conX7_isLeaf (l : Launch) : pm_Con l yX7_isLeaf wsX7_isLeaf mX7_isLeaf shX 288 kX7_isLeaf := pm_met_con (cc := cX7_isLeaf) (by decide +kernel) rfl shX_N tX7_isLeaf_ok fX7_isLeaf_ok qX7_isLeaf_ok (fun _ h => absurd h List.not_mem_nil)

def tX7_leaf : List (Nat × (Instr × Nat)) := [(0, (.iload_n 1, 1)), (1, (.invokestatic 55, 3)), (4, (.ifCond .ne 5, 3)), (7, (.iconst 0, 1)), (8, (.ireturn, 1)), (9, (.aload_n 0, 1)), (10, (.getfield 9, 3)), (13, (.iload_n 1, 1)), (14, (.lload_n 2, 1)), (15, (.lastore, 1)), (16, (.iconst 1, 1)), (17, (.ireturn, 1))]
def fX7_leaf : List (Nat × (Nat × Nat)) := [(9, (6, 0))]
def qX7_leaf : List (Nat × (Int32 ⊕ Int64)) := []
noncomputable def lX7_leaf : List (Nat × (Nat × (Option Nat × pFN))) := [(55, (1, (none, kX7_isLeaf)))]
noncomputable def kX7_leaf : pFN := pm_met shX (some 6) tX7_leaf fX7_leaf qX7_leaf lX7_leaf 4 2
def mX7_leaf : Room := { frames := 1, cells := 0, slots := 0, locals := 20 }
set_option maxRecDepth 100000 in
theorem tX7_leaf_ok : ∀ q ∈ tX7_leaf, decode cX7_leaf q.1 = .ok q.2 ∧ pm_tok q.1 q.2.1 q.2.2 = true := by decide +kernel
set_option maxRecDepth 100000 in
theorem fX7_leaf_ok : ∀ q ∈ fX7_leaf, pm_Fok wsX7_leaf yX7_leaf.cls q.1 q.2.1 q.2.2 := List.forall_mem_cons.mpr ⟨⟨(RX7, TX7, 5), rfl, by decide, by decide +kernel, fun w h => List.mem_cons_of_mem _ (List.mem_append_right _ h)⟩, fun _ h => absurd h List.not_mem_nil⟩
set_option maxRecDepth 100000 in
theorem qX7_leaf_ok : ∀ q ∈ qX7_leaf, pm_Kok wsX7_leaf yX7_leaf.cls q.1 q.2 := fun _ h => absurd h List.not_mem_nil
set_option maxRecDepth 100000 in
theorem conX7_leaf (l : Launch) : pm_Con l yX7_leaf wsX7_leaf mX7_leaf shX 288 kX7_leaf := pm_met_con (cc := cX7_leaf) (by decide +kernel) rfl shX_N tX7_leaf_ok fX7_leaf_ok qX7_leaf_ok (List.forall_mem_cons.mpr ⟨Or.inl ⟨yX7_isLeaf, wsX7_isLeaf, _, mX7_isLeaf, cX7_isLeaf, 1, pm_rt 2, conX7_isLeaf l, gX7_leaf_X7_isLeaf, rfl, rfl, rfl, by decide +kernel, by decide⟩, fun _ h => absurd h List.not_mem_nil⟩)

def tX7_bound : List (Nat × (Instr × Nat)) := [(0, (.iload_n 1, 1)), (1, (.iconst 1, 1)), (2, (.if_icmp .lt 9, 3)), (5, (.iload_n 1, 1)), (6, (.bipush 100, 2)), (8, (.if_icmp .le 5, 3)), (11, (.iconst 0, 1)), (12, (.ireturn, 1)), (13, (.aload_n 0, 1)), (14, (.iload_n 1, 1)), (15, (.putfield 34, 3)), (18, (.iconst 1, 1)), (19, (.ireturn, 1))]
def fX7_bound : List (Nat × (Nat × Nat)) := [(34, (6, 4))]
def qX7_bound : List (Nat × (Int32 ⊕ Int64)) := []
noncomputable def lX7_bound : List (Nat × (Nat × (Option Nat × pFN))) := []
noncomputable def kX7_bound : pFN := pm_met shX (some 6) tX7_bound fX7_bound qX7_bound lX7_bound 2 2
def mX7_bound : Room := { frames := 0, cells := 0, slots := 0, locals := 0 }
set_option maxRecDepth 100000 in
theorem tX7_bound_ok : ∀ q ∈ tX7_bound, decode cX7_bound q.1 = .ok q.2 ∧ pm_tok q.1 q.2.1 q.2.2 = true := by decide +kernel
set_option maxRecDepth 100000 in
theorem fX7_bound_ok : ∀ q ∈ fX7_bound, pm_Fok wsX7_bound yX7_bound.cls q.1 q.2.1 q.2.2 := List.forall_mem_cons.mpr ⟨⟨(RX7, TX7, 5), rfl, by decide, by decide +kernel, fun w h => List.mem_cons_of_mem _ (List.mem_append_right _ h)⟩, fun _ h => absurd h List.not_mem_nil⟩
set_option maxRecDepth 100000 in
theorem qX7_bound_ok : ∀ q ∈ qX7_bound, pm_Kok wsX7_bound yX7_bound.cls q.1 q.2 := fun _ h => absurd h List.not_mem_nil
set_option maxRecDepth 100000 in
theorem conX7_bound (l : Launch) : pm_Con l yX7_bound wsX7_bound mX7_bound shX 288 kX7_bound := pm_met_con (cc := cX7_bound) (by decide +kernel) rfl shX_N tX7_bound_ok fX7_bound_ok qX7_bound_ok (fun _ h => absurd h List.not_mem_nil)

def tX7_run : List (Nat × (Instr × Nat)) := [(0, (.iload_n 1, 1)), (1, (.iconst 1, 1)), (2, (.if_icmp .lt 8, 3)), (5, (.iload_n 1, 1)), (6, (.iconst 4, 1)), (7, (.if_icmp .le 5, 3)), (10, (.iconst (-1), 1)), (11, (.ireturn, 1)), (12, (.aload_n 0, 1)), (13, (.getfield 23, 3)), (16, (.aload_n 0, 1)), (17, (.getfield 16, 3)), (20, (.aload_n 0, 1)), (21, (.getfield 9, 3)), (24, (.iload_n 1, 1)), (25, (.aload_n 0, 1)), (26, (.getfield 34, 3)), (29, (.invokevirtual 59, 3)), (32, (.aload_n 0, 1)), (33, (.getfield 23, 3)), (36, (.aload_n 0, 1)), (37, (.getfield 16, 3)), (40, (.iload_n 2, 1)), (41, (.invokevirtual 63, 3)), (44, (.iconst 0, 1)), (45, (.istore_n 3, 1)), (46, (.iload_n 3, 1)), (47, (.bipush 32, 2)), (49, (.if_icmp .ge 29, 3)), (52, (.aload_n 0, 1)), (53, (.getfield 9, 3)), (56, (.iload_n 3, 1)), (57, (.aload_n 0, 1)), (58, (.getfield 23, 3)), (61, (.getfield 67, 3)), (64, (.getfield 70, 3)), (67, (.iload_n 3, 1)), (68, (.invokevirtual 74, 3)), (71, (.lastore, 1)), (72, (.iinc 3 1, 3)), (75, (.goto (-29), 3)), (78, (.aload_n 0, 1)), (79, (.getfield 23, 3)), (82, (.getfield 80, 3)), (85, (.ireturn, 1))]
def fX7_run : List (Nat × (Nat × Nat)) := [(23, (6, 2)), (16, (6, 1)), (9, (6, 0)), (34, (6, 4)), (67, (5, 0)), (70, (1, 0)), (80, (5, 2))]
def qX7_run : List (Nat × (Int32 ⊕ Int64)) := []
noncomputable def lX7_run : List (Nat × (Nat × (Option Nat × pFN))) := [(59, (5, (some 5, kX6_open))), (63, (3, (some 5, kX6_work))), (74, (2, (some 4, kX5_valueAfter)))]
noncomputable def kX7_run : pFN := pm_met shX (some 6) tX7_run fX7_run qX7_run lX7_run 4 1
def mX7_run : Room := { frames := 6, cells := 0, slots := 0, locals := 148 }
set_option maxRecDepth 100000 in
theorem tX7_run_ok : ∀ q ∈ tX7_run, decode cX7_run q.1 = .ok q.2 ∧ pm_tok q.1 q.2.1 q.2.2 = true := by decide +kernel
set_option maxRecDepth 100000 in
theorem fX7_run_ok : ∀ q ∈ fX7_run, pm_Fok wsX7_run yX7_run.cls q.1 q.2.1 q.2.2 := List.forall_mem_cons.mpr ⟨⟨(RX7, TX7, 5), rfl, by decide, by decide +kernel, fun w h => List.mem_cons_of_mem _ (List.mem_append_left _ (List.mem_append_left _ (List.mem_append_left _ (List.mem_append_left _ (List.mem_append_left _ (List.mem_append_left _ (List.mem_append_right _ h)))))))⟩, List.forall_mem_cons.mpr ⟨⟨(RX7, TX7, 5), rfl, by decide, by decide +kernel, fun w h => List.mem_cons_of_mem _ (List.mem_append_left _ (List.mem_append_left _ (List.mem_append_left _ (List.mem_append_left _ (List.mem_append_left _ (List.mem_append_left _ (List.mem_append_right _ h)))))))⟩, List.forall_mem_cons.mpr ⟨⟨(RX7, TX7, 5), rfl, by decide, by decide +kernel, fun w h => List.mem_cons_of_mem _ (List.mem_append_left _ (List.mem_append_left _ (List.mem_append_left _ (List.mem_append_left _ (List.mem_append_left _ (List.mem_append_left _ (List.mem_append_right _ h)))))))⟩, List.forall_mem_cons.mpr ⟨⟨(RX7, TX7, 5), rfl, by decide, by decide +kernel, fun w h => List.mem_cons_of_mem _ (List.mem_append_left _ (List.mem_append_left _ (List.mem_append_left _ (List.mem_append_left _ (List.mem_append_left _ (List.mem_append_left _ (List.mem_append_right _ h)))))))⟩, List.forall_mem_cons.mpr ⟨⟨(RX6, TX6, 17), rfl, by decide, by decide +kernel, fun w h => List.mem_cons_of_mem _ (List.mem_append_left _ (List.mem_append_left _ (List.mem_append_left _ (List.mem_append_left _ (List.mem_append_left _ (List.mem_append_right _ h))))))⟩, List.forall_mem_cons.mpr ⟨⟨(RX1, TX1, 3), rfl, by decide, by decide +kernel, fun w h => List.mem_cons_of_mem _ (List.mem_append_left _ (List.mem_append_left _ (List.mem_append_left _ (List.mem_append_left _ (List.mem_append_right _ h)))))⟩, List.forall_mem_cons.mpr ⟨⟨(RX6, TX6, 17), rfl, by decide, by decide +kernel, fun w h => List.mem_cons_of_mem _ (List.mem_append_left _ (List.mem_append_left _ (List.mem_append_left _ (List.mem_append_left _ (List.mem_append_left _ (List.mem_append_right _ h))))))⟩, fun _ h => absurd h List.not_mem_nil⟩⟩⟩⟩⟩⟩⟩
set_option maxRecDepth 100000 in
theorem qX7_run_ok : ∀ q ∈ qX7_run, pm_Kok wsX7_run yX7_run.cls q.1 q.2 := fun _ h => absurd h List.not_mem_nil
set_option maxRecDepth 100000 in
theorem conX7_run (l : Launch) : pm_Con l yX7_run wsX7_run mX7_run shX 288 kX7_run := pm_met_con (cc := cX7_run) (by decide +kernel) rfl shX_N tX7_run_ok fX7_run_ok qX7_run_ok (List.forall_mem_cons.mpr ⟨⟨yX6_open, wsX6_open, _, mX6_open, cX6_open, 5, pm_rt 0, (RX6, TX6, 17), conX6_open l, pm_met_recv, rfl, gX7_run_X6_open, rfl, rfl, rfl, by decide +kernel, by decide⟩, List.forall_mem_cons.mpr ⟨⟨yX6_work, wsX6_work, _, mX6_work, cX6_work, 4, pm_rt 0, (RX6, TX6, 17), conX6_work l, pm_met_recv, rfl, gX7_run_X6_work, rfl, rfl, rfl, by decide +kernel, by decide⟩, List.forall_mem_cons.mpr ⟨⟨yX5_valueAfter, wsX5_valueAfter, _, mX5_valueAfter, cX5_valueAfter, 2, pm_rt 3, (RX5, TX5, 4), conX5_valueAfter l, pm_met_recv, rfl, gX7_run_X5_valueAfter, rfl, rfl, rfl, by decide +kernel, by decide⟩, fun _ h => absurd h List.not_mem_nil⟩⟩⟩)

def tX7_at : List (Nat × (Instr × Nat)) := [(0, (.iload_n 1, 1)), (1, (.invokestatic 55, 3)), (4, (.ifCond .eq 12, 3)), (7, (.aload_n 0, 1)), (8, (.getfield 9, 3)), (11, (.iload_n 1, 1)), (12, (.laload, 1)), (13, (.goto 4, 3)), (16, (.lconst 0, 1)), (17, (.lreturn, 1))]
def fX7_at : List (Nat × (Nat × Nat)) := [(9, (6, 0))]
def qX7_at : List (Nat × (Int32 ⊕ Int64)) := []
noncomputable def lX7_at : List (Nat × (Nat × (Option Nat × pFN))) := [(55, (1, (none, kX7_isLeaf)))]
noncomputable def kX7_at : pFN := pm_met shX (some 6) tX7_at fX7_at qX7_at lX7_at 2 3
def mX7_at : Room := { frames := 1, cells := 0, slots := 0, locals := 20 }
set_option maxRecDepth 100000 in
theorem tX7_at_ok : ∀ q ∈ tX7_at, decode cX7_at q.1 = .ok q.2 ∧ pm_tok q.1 q.2.1 q.2.2 = true := by decide +kernel
set_option maxRecDepth 100000 in
theorem fX7_at_ok : ∀ q ∈ fX7_at, pm_Fok wsX7_at yX7_at.cls q.1 q.2.1 q.2.2 := List.forall_mem_cons.mpr ⟨⟨(RX7, TX7, 5), rfl, by decide, by decide +kernel, fun w h => List.mem_cons_of_mem _ (List.mem_append_right _ h)⟩, fun _ h => absurd h List.not_mem_nil⟩
set_option maxRecDepth 100000 in
theorem qX7_at_ok : ∀ q ∈ qX7_at, pm_Kok wsX7_at yX7_at.cls q.1 q.2 := fun _ h => absurd h List.not_mem_nil
set_option maxRecDepth 100000 in
theorem conX7_at (l : Launch) : pm_Con l yX7_at wsX7_at mX7_at shX 288 kX7_at := pm_met_con (cc := cX7_at) (by decide +kernel) rfl shX_N tX7_at_ok fX7_at_ok qX7_at_ok (List.forall_mem_cons.mpr ⟨Or.inl ⟨yX7_isLeaf, wsX7_isLeaf, _, mX7_isLeaf, cX7_isLeaf, 1, pm_rt 2, conX7_isLeaf l, gX7_at_X7_isLeaf, rfl, rfl, rfl, by decide +kernel, by decide⟩, fun _ h => absurd h List.not_mem_nil⟩)

def tX7_inOrder : List (Nat × (Instr × Nat)) := [(0, (.iload_n 1, 1)), (1, (.invokestatic 55, 3)), (4, (.ifCond .ne 5, 3)), (7, (.lconst 0, 1)), (8, (.lreturn, 1)), (9, (.aload_n 0, 1)), (10, (.getfield 30, 3)), (13, (.aload_n 0, 1)), (14, (.getfield 16, 3)), (17, (.aload_n 0, 1)), (18, (.getfield 9, 3)), (21, (.invokevirtual 83, 3)), (24, (.aload_n 0, 1)), (25, (.getfield 30, 3)), (28, (.aload_n 0, 1)), (29, (.getfield 16, 3)), (32, (.invokevirtual 86, 3)), (35, (.aload_n 0, 1)), (36, (.getfield 30, 3)), (39, (.getfield 70, 3)), (42, (.iload_n 1, 1)), (43, (.invokevirtual 74, 3)), (46, (.lreturn, 1))]
def fX7_inOrder : List (Nat × (Nat × Nat)) := [(30, (6, 3)), (16, (6, 1)), (9, (6, 0)), (70, (1, 0))]
def qX7_inOrder : List (Nat × (Int32 ⊕ Int64)) := []
noncomputable def lX7_inOrder : List (Nat × (Nat × (Option Nat × pFN))) := [(55, (1, (none, kX7_isLeaf))), (83, (3, (some 1, kX1_open))), (86, (2, (some 1, kX1_runOneByOne))), (74, (2, (some 4, kX5_valueAfter)))]
noncomputable def kX7_inOrder : pFN := pm_met shX (some 6) tX7_inOrder fX7_inOrder qX7_inOrder lX7_inOrder 2 3
def mX7_inOrder : Room := { frames := 4, cells := 0, slots := 0, locals := 102 }
set_option maxRecDepth 100000 in
theorem tX7_inOrder_ok : ∀ q ∈ tX7_inOrder, decode cX7_inOrder q.1 = .ok q.2 ∧ pm_tok q.1 q.2.1 q.2.2 = true := by decide +kernel
set_option maxRecDepth 100000 in
theorem fX7_inOrder_ok : ∀ q ∈ fX7_inOrder, pm_Fok wsX7_inOrder yX7_inOrder.cls q.1 q.2.1 q.2.2 := List.forall_mem_cons.mpr ⟨⟨(RX7, TX7, 5), rfl, by decide, by decide +kernel, fun w h => List.mem_cons_of_mem _ (List.mem_append_left _ (List.mem_append_left _ (List.mem_append_left _ (List.mem_append_left _ (List.mem_append_right _ h)))))⟩, List.forall_mem_cons.mpr ⟨⟨(RX7, TX7, 5), rfl, by decide, by decide +kernel, fun w h => List.mem_cons_of_mem _ (List.mem_append_left _ (List.mem_append_left _ (List.mem_append_left _ (List.mem_append_left _ (List.mem_append_right _ h)))))⟩, List.forall_mem_cons.mpr ⟨⟨(RX7, TX7, 5), rfl, by decide, by decide +kernel, fun w h => List.mem_cons_of_mem _ (List.mem_append_left _ (List.mem_append_left _ (List.mem_append_left _ (List.mem_append_left _ (List.mem_append_right _ h)))))⟩, List.forall_mem_cons.mpr ⟨⟨(RX1, TX1, 3), rfl, by decide, by decide +kernel, fun w h => List.mem_cons_of_mem _ (List.mem_append_left _ (List.mem_append_left _ (List.mem_append_left _ (List.mem_append_right _ h))))⟩, fun _ h => absurd h List.not_mem_nil⟩⟩⟩⟩
set_option maxRecDepth 100000 in
theorem qX7_inOrder_ok : ∀ q ∈ qX7_inOrder, pm_Kok wsX7_inOrder yX7_inOrder.cls q.1 q.2 := fun _ h => absurd h List.not_mem_nil
set_option maxRecDepth 100000 in
theorem conX7_inOrder (l : Launch) : pm_Con l yX7_inOrder wsX7_inOrder mX7_inOrder shX 288 kX7_inOrder := pm_met_con (cc := cX7_inOrder) (by decide +kernel) rfl shX_N tX7_inOrder_ok fX7_inOrder_ok qX7_inOrder_ok (List.forall_mem_cons.mpr ⟨Or.inl ⟨yX7_isLeaf, wsX7_isLeaf, _, mX7_isLeaf, cX7_isLeaf, 1, pm_rt 2, conX7_isLeaf l, gX7_inOrder_X7_isLeaf, rfl, rfl, rfl, by decide +kernel, by decide⟩, List.forall_mem_cons.mpr ⟨⟨yX1_open, wsX1_open, _, mX1_open, cX1_open, 4, pm_rt 0, (RX1, TX1, 3), conX1_open l, pm_met_recv, rfl, gX7_inOrder_X1_open, rfl, rfl, rfl, by decide +kernel, by decide⟩, List.forall_mem_cons.mpr ⟨⟨yX1_runOneByOne, wsX1_runOneByOne, _, mX1_runOneByOne, cX1_runOneByOne, 5, pm_rt 0, (RX1, TX1, 3), conX1_runOneByOne l, pm_met_recv, rfl, gX7_inOrder_X1_runOneByOne, rfl, rfl, rfl, by decide +kernel, by decide⟩, List.forall_mem_cons.mpr ⟨⟨yX5_valueAfter, wsX5_valueAfter, _, mX5_valueAfter, cX5_valueAfter, 2, pm_rt 3, (RX5, TX5, 4), conX5_valueAfter l, pm_met_recv, rfl, gX7_inOrder_X5_valueAfter, rfl, rfl, rfl, by decide +kernel, by decide⟩, fun _ h => absurd h List.not_mem_nil⟩⟩⟩⟩)

def tX7_events : List (Nat × (Instr × Nat)) := [(0, (.aload_n 0, 1)), (1, (.getfield 23, 3)), (4, (.getfield 67, 3)), (7, (.invokevirtual 90, 3)), (10, (.ireturn, 1))]
def fX7_events : List (Nat × (Nat × Nat)) := [(23, (6, 2)), (67, (5, 0))]
def qX7_events : List (Nat × (Int32 ⊕ Int64)) := []
noncomputable def lX7_events : List (Nat × (Nat × (Option Nat × pFN))) := [(90, (1, (some 1, kX1_countEvents)))]
noncomputable def kX7_events : pFN := pm_met shX (some 6) tX7_events fX7_events qX7_events lX7_events 1 1
def mX7_events : Room := { frames := 1, cells := 0, slots := 0, locals := 22 }
set_option maxRecDepth 100000 in
theorem tX7_events_ok : ∀ q ∈ tX7_events, decode cX7_events q.1 = .ok q.2 ∧ pm_tok q.1 q.2.1 q.2.2 = true := by decide +kernel
set_option maxRecDepth 100000 in
theorem fX7_events_ok : ∀ q ∈ fX7_events, pm_Fok wsX7_events yX7_events.cls q.1 q.2.1 q.2.2 := List.forall_mem_cons.mpr ⟨⟨(RX7, TX7, 5), rfl, by decide, by decide +kernel, fun w h => List.mem_cons_of_mem _ (List.mem_append_left _ (List.mem_append_left _ (List.mem_append_left _ (List.mem_append_right _ h))))⟩, List.forall_mem_cons.mpr ⟨⟨(RX6, TX6, 17), rfl, by decide, by decide +kernel, fun w h => List.mem_cons_of_mem _ (List.mem_append_left _ (List.mem_append_left _ (List.mem_append_right _ h)))⟩, fun _ h => absurd h List.not_mem_nil⟩⟩
set_option maxRecDepth 100000 in
theorem qX7_events_ok : ∀ q ∈ qX7_events, pm_Kok wsX7_events yX7_events.cls q.1 q.2 := fun _ h => absurd h List.not_mem_nil
set_option maxRecDepth 100000 in
theorem conX7_events (l : Launch) : pm_Con l yX7_events wsX7_events mX7_events shX 288 kX7_events := pm_met_con (cc := cX7_events) (by decide +kernel) rfl shX_N tX7_events_ok fX7_events_ok qX7_events_ok (List.forall_mem_cons.mpr ⟨⟨yX1_countEvents, wsX1_countEvents, _, mX1_countEvents, cX1_countEvents, 3, pm_rt 1, (RX1, TX1, 3), conX1_countEvents l, pm_met_recv, rfl, gX7_events_X1_countEvents, rfl, rfl, rfl, by decide +kernel, by decide⟩, fun _ h => absurd h List.not_mem_nil⟩)
end
section
def tX7_event : List (Nat × (Instr × Nat)) := [(0, (.aload_n 0, 1)), (1, (.getfield 23, 3)), (4, (.getfield 67, 3)), (7, (.iload_n 1, 1)), (8, (.iload_n 2, 1)), (9, (.invokevirtual 93, 3)), (12, (.lreturn, 1))]
def fX7_event : List (Nat × (Nat × Nat)) := [(23, (6, 2)), (67, (5, 0))]
def qX7_event : List (Nat × (Int32 ⊕ Int64)) := []
noncomputable def lX7_event : List (Nat × (Nat × (Option Nat × pFN))) := [(93, (3, (some 1, kX1_tellEvent)))]
noncomputable def kX7_event : pFN := pm_met shX (some 6) tX7_event fX7_event qX7_event lX7_event 3 3
def mX7_event : Room := { frames := 1, cells := 0, slots := 0, locals := 25 }
set_option maxRecDepth 100000 in
theorem tX7_event_ok : ∀ q ∈ tX7_event, decode cX7_event q.1 = .ok q.2 ∧ pm_tok q.1 q.2.1 q.2.2 = true := by decide +kernel
set_option maxRecDepth 100000 in
theorem fX7_event_ok : ∀ q ∈ fX7_event, pm_Fok wsX7_event yX7_event.cls q.1 q.2.1 q.2.2 := List.forall_mem_cons.mpr ⟨⟨(RX7, TX7, 5), rfl, by decide, by decide +kernel, fun w h => List.mem_cons_of_mem _ (List.mem_append_left _ (List.mem_append_left _ (List.mem_append_left _ (List.mem_append_right _ h))))⟩, List.forall_mem_cons.mpr ⟨⟨(RX6, TX6, 17), rfl, by decide, by decide +kernel, fun w h => List.mem_cons_of_mem _ (List.mem_append_left _ (List.mem_append_left _ (List.mem_append_right _ h)))⟩, fun _ h => absurd h List.not_mem_nil⟩⟩
set_option maxRecDepth 100000 in
theorem qX7_event_ok : ∀ q ∈ qX7_event, pm_Kok wsX7_event yX7_event.cls q.1 q.2 := fun _ h => absurd h List.not_mem_nil
set_option maxRecDepth 100000 in
theorem conX7_event (l : Launch) : pm_Con l yX7_event wsX7_event mX7_event shX 288 kX7_event := pm_met_con (cc := cX7_event) (by decide +kernel) rfl shX_N tX7_event_ok fX7_event_ok qX7_event_ok (List.forall_mem_cons.mpr ⟨⟨yX1_tellEvent, wsX1_tellEvent, _, mX1_tellEvent, cX1_tellEvent, 6, pm_rt 3, (RX1, TX1, 3), conX1_tellEvent l, pm_met_recv, rfl, gX7_event_X1_tellEvent, rfl, rfl, rfl, by decide +kernel, by decide⟩, fun _ h => absurd h List.not_mem_nil⟩)

def tX7_of : List (Nat × (Instr × Nat)) := [(0, (.aload_n 0, 1)), (1, (.getfield 23, 3)), (4, (.getfield 67, 3)), (7, (.iload_n 1, 1)), (8, (.iload_n 2, 1)), (9, (.invokevirtual 97, 3)), (12, (.ireturn, 1))]
def fX7_of : List (Nat × (Nat × Nat)) := [(23, (6, 2)), (67, (5, 0))]
def qX7_of : List (Nat × (Int32 ⊕ Int64)) := []
noncomputable def lX7_of : List (Nat × (Nat × (Option Nat × pFN))) := [(97, (3, (some 1, kX1_tellCall)))]
noncomputable def kX7_of : pFN := pm_met shX (some 6) tX7_of fX7_of qX7_of lX7_of 3 1
def mX7_of : Room := { frames := 3, cells := 0, slots := 0, locals := 63 }
set_option maxRecDepth 100000 in
theorem tX7_of_ok : ∀ q ∈ tX7_of, decode cX7_of q.1 = .ok q.2 ∧ pm_tok q.1 q.2.1 q.2.2 = true := by decide +kernel
set_option maxRecDepth 100000 in
theorem fX7_of_ok : ∀ q ∈ fX7_of, pm_Fok wsX7_of yX7_of.cls q.1 q.2.1 q.2.2 := List.forall_mem_cons.mpr ⟨⟨(RX7, TX7, 5), rfl, by decide, by decide +kernel, fun w h => List.mem_cons_of_mem _ (List.mem_append_left _ (List.mem_append_left _ (List.mem_append_left _ (List.mem_append_right _ h))))⟩, List.forall_mem_cons.mpr ⟨⟨(RX6, TX6, 17), rfl, by decide, by decide +kernel, fun w h => List.mem_cons_of_mem _ (List.mem_append_left _ (List.mem_append_left _ (List.mem_append_right _ h)))⟩, fun _ h => absurd h List.not_mem_nil⟩⟩
set_option maxRecDepth 100000 in
theorem qX7_of_ok : ∀ q ∈ qX7_of, pm_Kok wsX7_of yX7_of.cls q.1 q.2 := fun _ h => absurd h List.not_mem_nil
set_option maxRecDepth 100000 in
theorem conX7_of (l : Launch) : pm_Con l yX7_of wsX7_of mX7_of shX 288 kX7_of := pm_met_con (cc := cX7_of) (by decide +kernel) rfl shX_N tX7_of_ok fX7_of_ok qX7_of_ok (List.forall_mem_cons.mpr ⟨⟨yX1_tellCall, wsX1_tellCall, _, mX1_tellCall, cX1_tellCall, 4, pm_rt 1, (RX1, TX1, 3), conX1_tellCall l, pm_met_recv, rfl, gX7_of_X1_tellCall, rfl, rfl, rfl, by decide +kernel, by decide⟩, fun _ h => absurd h List.not_mem_nil⟩)

def tX7_conflicts : List (Nat × (Instr × Nat)) := [(0, (.aload_n 0, 1)), (1, (.getfield 23, 3)), (4, (.getfield 101, 3)), (7, (.getfield 105, 3)), (10, (.ireturn, 1))]
def fX7_conflicts : List (Nat × (Nat × Nat)) := [(23, (6, 2)), (101, (5, 1)), (105, (3, 0))]
def qX7_conflicts : List (Nat × (Int32 ⊕ Int64)) := []
noncomputable def lX7_conflicts : List (Nat × (Nat × (Option Nat × pFN))) := []
noncomputable def kX7_conflicts : pFN := pm_met shX (some 6) tX7_conflicts fX7_conflicts qX7_conflicts lX7_conflicts 1 1
def mX7_conflicts : Room := { frames := 0, cells := 0, slots := 0, locals := 0 }
set_option maxRecDepth 100000 in
theorem tX7_conflicts_ok : ∀ q ∈ tX7_conflicts, decode cX7_conflicts q.1 = .ok q.2 ∧ pm_tok q.1 q.2.1 q.2.2 = true := by decide +kernel
set_option maxRecDepth 100000 in
theorem fX7_conflicts_ok : ∀ q ∈ fX7_conflicts, pm_Fok wsX7_conflicts yX7_conflicts.cls q.1 q.2.1 q.2.2 := List.forall_mem_cons.mpr ⟨⟨(RX7, TX7, 5), rfl, by decide, by decide +kernel, fun w h => List.mem_cons_of_mem _ (List.mem_append_left _ (List.mem_append_left _ (List.mem_append_right _ h)))⟩, List.forall_mem_cons.mpr ⟨⟨(RX6, TX6, 17), rfl, by decide, by decide +kernel, fun w h => List.mem_cons_of_mem _ (List.mem_append_left _ (List.mem_append_right _ h))⟩, List.forall_mem_cons.mpr ⟨⟨(RX3, TX3, 3), rfl, by decide, by decide +kernel, fun w h => List.mem_cons_of_mem _ (List.mem_append_right _ h)⟩, fun _ h => absurd h List.not_mem_nil⟩⟩⟩
set_option maxRecDepth 100000 in
theorem qX7_conflicts_ok : ∀ q ∈ qX7_conflicts, pm_Kok wsX7_conflicts yX7_conflicts.cls q.1 q.2 := fun _ h => absurd h List.not_mem_nil
set_option maxRecDepth 100000 in
theorem conX7_conflicts (l : Launch) : pm_Con l yX7_conflicts wsX7_conflicts mX7_conflicts shX 288 kX7_conflicts := pm_met_con (cc := cX7_conflicts) (by decide +kernel) rfl shX_N tX7_conflicts_ok fX7_conflicts_ok qX7_conflicts_ok (fun _ h => absurd h List.not_mem_nil)

def tX7_conflict : List (Nat × (Instr × Nat)) := [(0, (.aload_n 0, 1)), (1, (.getfield 23, 3)), (4, (.getfield 101, 3)), (7, (.iload_n 1, 1)), (8, (.iload_n 2, 1)), (9, (.invokevirtual 110, 3)), (12, (.ireturn, 1))]
def fX7_conflict : List (Nat × (Nat × Nat)) := [(23, (6, 2)), (101, (5, 1))]
def qX7_conflict : List (Nat × (Int32 ⊕ Int64)) := []
noncomputable def lX7_conflict : List (Nat × (Nat × (Option Nat × pFN))) := [(110, (3, (some 3, kX3_tell)))]
noncomputable def kX7_conflict : pFN := pm_met shX (some 6) tX7_conflict fX7_conflict qX7_conflict lX7_conflict 3 1
def mX7_conflict : Room := { frames := 1, cells := 0, slots := 0, locals := 22 }
set_option maxRecDepth 100000 in
theorem tX7_conflict_ok : ∀ q ∈ tX7_conflict, decode cX7_conflict q.1 = .ok q.2 ∧ pm_tok q.1 q.2.1 q.2.2 = true := by decide +kernel
set_option maxRecDepth 100000 in
theorem fX7_conflict_ok : ∀ q ∈ fX7_conflict, pm_Fok wsX7_conflict yX7_conflict.cls q.1 q.2.1 q.2.2 := List.forall_mem_cons.mpr ⟨⟨(RX7, TX7, 5), rfl, by decide, by decide +kernel, fun w h => List.mem_cons_of_mem _ (List.mem_append_left _ (List.mem_append_left _ (List.mem_append_right _ h)))⟩, List.forall_mem_cons.mpr ⟨⟨(RX6, TX6, 17), rfl, by decide, by decide +kernel, fun w h => List.mem_cons_of_mem _ (List.mem_append_left _ (List.mem_append_right _ h))⟩, fun _ h => absurd h List.not_mem_nil⟩⟩
set_option maxRecDepth 100000 in
theorem qX7_conflict_ok : ∀ q ∈ qX7_conflict, pm_Kok wsX7_conflict yX7_conflict.cls q.1 q.2 := fun _ h => absurd h List.not_mem_nil
set_option maxRecDepth 100000 in
theorem conX7_conflict (l : Launch) : pm_Con l yX7_conflict wsX7_conflict mX7_conflict shX 288 kX7_conflict := pm_met_con (cc := cX7_conflict) (by decide +kernel) rfl shX_N tX7_conflict_ok fX7_conflict_ok qX7_conflict_ok (List.forall_mem_cons.mpr ⟨⟨yX3_tell, wsX3_tell, _, mX3_tell, cX3_tell, 3, pm_rt 1, (RX3, TX3, 3), conX3_tell l, pm_met_recv, rfl, gX7_conflict_X3_tell, rfl, rfl, rfl, by decide +kernel, by decide⟩, fun _ h => absurd h List.not_mem_nil⟩)

def tX7_told : List (Nat × (Instr × Nat)) := [(0, (.aload_n 0, 1)), (1, (.getfield 23, 3)), (4, (.iload_n 1, 1)), (5, (.invokevirtual 113, 3)), (8, (.ireturn, 1))]
def fX7_told : List (Nat × (Nat × Nat)) := [(23, (6, 2))]
def qX7_told : List (Nat × (Int32 ⊕ Int64)) := []
noncomputable def lX7_told : List (Nat × (Nat × (Option Nat × pFN))) := [(113, (2, (some 5, kX6_tell)))]
noncomputable def kX7_told : pFN := pm_met shX (some 6) tX7_told fX7_told qX7_told lX7_told 2 1
def mX7_told : Room := { frames := 2, cells := 0, slots := 0, locals := 43 }
set_option maxRecDepth 100000 in
theorem tX7_told_ok : ∀ q ∈ tX7_told, decode cX7_told q.1 = .ok q.2 ∧ pm_tok q.1 q.2.1 q.2.2 = true := by decide +kernel
set_option maxRecDepth 100000 in
theorem fX7_told_ok : ∀ q ∈ fX7_told, pm_Fok wsX7_told yX7_told.cls q.1 q.2.1 q.2.2 := List.forall_mem_cons.mpr ⟨⟨(RX7, TX7, 5), rfl, by decide, by decide +kernel, fun w h => List.mem_cons_of_mem _ (List.mem_append_left _ (List.mem_append_left _ (List.mem_append_left _ (List.mem_append_right _ h))))⟩, fun _ h => absurd h List.not_mem_nil⟩
set_option maxRecDepth 100000 in
theorem qX7_told_ok : ∀ q ∈ qX7_told, pm_Kok wsX7_told yX7_told.cls q.1 q.2 := fun _ h => absurd h List.not_mem_nil
set_option maxRecDepth 100000 in
theorem conX7_told (l : Launch) : pm_Con l yX7_told wsX7_told mX7_told shX 288 kX7_told := pm_met_con (cc := cX7_told) (by decide +kernel) rfl shX_N tX7_told_ok fX7_told_ok qX7_told_ok (List.forall_mem_cons.mpr ⟨⟨yX6_tell, wsX6_tell, _, mX6_tell, cX6_tell, 2, pm_rt 1, (RX6, TX6, 17), conX6_tell l, pm_met_recv, rfl, gX7_told_X6_tell, rfl, rfl, rfl, by decide +kernel, by decide⟩, fun _ h => absurd h List.not_mem_nil⟩)
end
section
def tX8_call : List (Nat × (Instr × Nat)) := [(0, (.aload_n 0, 1)), (1, (.getfield 145, 3)), (4, (.bipush 16, 2)), (6, (.if_icmp .ne 5, 3)), (9, (.iconst (-1), 1)), (10, (.ireturn, 1)), (11, (.aload_n 0, 1)), (12, (.getfield 13, 3)), (15, (.aload_n 0, 1)), (16, (.getfield 145, 3)), (19, (.iconst 0, 1)), (20, (.iastore, 1)), (21, (.aload_n 0, 1)), (22, (.dup, 1)), (23, (.getfield 145, 3)), (26, (.iconst 1, 1)), (27, (.iadd, 1)), (28, (.putfield 145, 3)), (31, (.aload_n 0, 1)), (32, (.getfield 145, 3)), (35, (.iconst 1, 1)), (36, (.isub, 1)), (37, (.ireturn, 1))]
def fX8_call : List (Nat × (Nat × Nat)) := [(145, (7, 1)), (13, (7, 3))]
def qX8_call : List (Nat × (Int32 ⊕ Int64)) := []
noncomputable def lX8_call : List (Nat × (Nat × (Option Nat × pFN))) := []
noncomputable def kX8_call : pFN := pm_met shM (some 7) tX8_call fX8_call qX8_call lX8_call 1 1
def mX8_call : Room := { frames := 0, cells := 0, slots := 0, locals := 0 }
set_option maxRecDepth 100000 in
theorem tX8_call_ok : ∀ q ∈ tX8_call, decode cX8_call q.1 = .ok q.2 ∧ pm_tok q.1 q.2.1 q.2.2 = true := by decide +kernel
set_option maxRecDepth 100000 in
theorem fX8_call_ok : ∀ q ∈ fX8_call, pm_Fok wsX8_call yX8_call.cls q.1 q.2.1 q.2.2 := List.forall_mem_cons.mpr ⟨⟨(RX8, TX8, 61), rfl, by decide, by decide +kernel, fun w h => List.mem_cons_of_mem _ (List.mem_append_right _ h)⟩, List.forall_mem_cons.mpr ⟨⟨(RX8, TX8, 61), rfl, by decide, by decide +kernel, fun w h => List.mem_cons_of_mem _ (List.mem_append_right _ h)⟩, fun _ h => absurd h List.not_mem_nil⟩⟩
set_option maxRecDepth 100000 in
theorem qX8_call_ok : ∀ q ∈ qX8_call, pm_Kok wsX8_call yX8_call.cls q.1 q.2 := fun _ h => absurd h List.not_mem_nil
set_option maxRecDepth 100000 in
theorem conX8_call (l : Launch) : pm_Con l yX8_call wsX8_call mX8_call shM 44 kX8_call := pm_met_con (cc := cX8_call) (by decide +kernel) rfl shM_N tX8_call_ok fX8_call_ok qX8_call_ok (fun _ h => absurd h List.not_mem_nil)

def tX8_act : List (Nat × (Instr × Nat)) := [(0, (.iload_n 1, 1)), (1, (.ifCond .lt 36, 3)), (4, (.iload_n 1, 1)), (5, (.aload_n 0, 1)), (6, (.getfield 145, 3)), (9, (.if_icmp .ge 28, 3)), (12, (.iload_n 2, 1)), (13, (.ifCond .lt 24, 3)), (16, (.iload_n 2, 1)), (17, (.bipush 8, 2)), (19, (.if_icmp .gt 18, 3)), (22, (.aload_n 0, 1)), (23, (.getfield 13, 3)), (26, (.iload_n 1, 1)), (27, (.iaload, 1)), (28, (.bipush 12, 2)), (30, (.if_icmp .ge 7, 3)), (33, (.iconst 1, 1)), (34, (.goto 4, 3)), (37, (.iconst 0, 1)), (38, (.istore 7, 2)), (40, (.iload_n 2, 1)), (41, (.iconst 1, 1)), (42, (.if_icmp .lt 13, 3)), (45, (.iload_n 2, 1)), (46, (.bipush 6, 2)), (48, (.if_icmp .gt 7, 3)), (51, (.iconst 1, 1)), (52, (.goto 4, 3)), (55, (.iconst 0, 1)), (56, (.istore 8, 2)), (58, (.iload 7, 2)), (60, (.ifCond .eq 40, 3)), (63, (.iload_n 3, 1)), (64, (.ifCond .lt 36, 3)), (67, (.iload_n 3, 1)), (68, (.iconst 3, 1)), (69, (.if_icmp .gt 31, 3)), (72, (.iload 8, 2)), (74, (.ifCond .eq 17, 3)), (77, (.iload 4, 2)), (79, (.ifCond .lt 21, 3)), (82, (.iload 4, 2)), (84, (.iconst 3, 1)), (85, (.if_icmp .gt 15, 3)), (88, (.goto 8, 3)), (91, (.iload 4, 2)), (93, (.ifCond .ne 7, 3)), (96, (.iconst 1, 1)), (97, (.goto 4, 3)), (100, (.iconst 0, 1)), (101, (.istore 7, 2)), (103, (.iload 7, 2)), (105, (.ifCond .eq 44, 3)), (108, (.iload_n 2, 1)), (109, (.iconst 2, 1)), (110, (.if_icmp .le 35, 3)), (113, (.iload_n 2, 1)), (114, (.bipush 6, 2)), (116, (.if_icmp .ne 22, 3)), (119, (.lload 5, 2)), (121, (.lconst 1, 1)), (122, (.lcmp, 1)), (123, (.ifCond .lt 26, 3)), (126, (.lload 5, 2)), (128, (.ldc2_w 148, 3)), (131, (.lcmp, 1)), (132, (.ifCond .gt 17, 3)), (135, (.goto 10, 3)), (138, (.lload 5, 2)), (140, (.lconst 0, 1)), (141, (.lcmp, 1)), (142, (.ifCond .ne 7, 3)), (145, (.iconst 1, 1)), (146, (.goto 4, 3)), (149, (.iconst 0, 1)), (150, (.istore 7, 2)), (152, (.iload 7, 2)), (154, (.ifCond .ne 5, 3)), (157, (.iconst (-1), 1)), (158, (.ireturn, 1)), (159, (.bipush 12, 2)), (161, (.iload_n 1, 1)), (162, (.imul, 1)), (163, (.aload_n 0, 1)), (164, (.getfield 13, 3)), (167, (.iload_n 1, 1)), (168, (.iaload, 1)), (169, (.iadd, 1)), (170, (.istore 9, 2)), (172, (.aload_n 0, 1)), (173, (.getfield 17, 3)), (176, (.iload 9, 2)), (178, (.iload_n 2, 1)), (179, (.iastore, 1)), (180, (.aload_n 0, 1)), (181, (.getfield 20, 3)), (184, (.iload 9, 2)), (186, (.iload_n 3, 1)), (187, (.iastore, 1)), (188, (.aload_n 0, 1)), (189, (.getfield 23, 3)), (192, (.iload 9, 2)), (194, (.iload 4, 2)), (196, (.iastore, 1)), (197, (.aload_n 0, 1)), (198, (.getfield 26, 3)), (201, (.iload 9, 2)), (203, (.lload 5, 2)), (205, (.lastore, 1)), (206, (.aload_n 0, 1)), (207, (.getfield 13, 3)), (210, (.iload_n 1, 1)), (211, (.dup2, 1)), (212, (.iaload, 1)), (213, (.iconst 1, 1)), (214, (.iadd, 1)), (215, (.iastore, 1)), (216, (.aload_n 0, 1)), (217, (.getfield 13, 3)), (220, (.iload_n 1, 1)), (221, (.iaload, 1)), (222, (.ireturn, 1))]
def fX8_act : List (Nat × (Nat × Nat)) := [(145, (7, 1)), (13, (7, 3)), (17, (7, 4)), (20, (7, 5)), (23, (7, 6)), (26, (7, 7))]
def qX8_act : List (Nat × (Int32 ⊕ Int64)) := [(148, .inr (12))]
noncomputable def lX8_act : List (Nat × (Nat × (Option Nat × pFN))) := []
noncomputable def kX8_act : pFN := pm_met shM (some 7) tX8_act fX8_act qX8_act lX8_act 10 1
def mX8_act : Room := { frames := 0, cells := 0, slots := 0, locals := 0 }
set_option maxRecDepth 100000 in
theorem tX8_act_ok : ∀ q ∈ tX8_act, decode cX8_act q.1 = .ok q.2 ∧ pm_tok q.1 q.2.1 q.2.2 = true := by decide +kernel
set_option maxRecDepth 100000 in
theorem fX8_act_ok : ∀ q ∈ fX8_act, pm_Fok wsX8_act yX8_act.cls q.1 q.2.1 q.2.2 := List.forall_mem_cons.mpr ⟨⟨(RX8, TX8, 61), rfl, by decide, by decide +kernel, fun w h => List.mem_cons_of_mem _ (List.mem_append_right _ h)⟩, List.forall_mem_cons.mpr ⟨⟨(RX8, TX8, 61), rfl, by decide, by decide +kernel, fun w h => List.mem_cons_of_mem _ (List.mem_append_right _ h)⟩, List.forall_mem_cons.mpr ⟨⟨(RX8, TX8, 61), rfl, by decide, by decide +kernel, fun w h => List.mem_cons_of_mem _ (List.mem_append_right _ h)⟩, List.forall_mem_cons.mpr ⟨⟨(RX8, TX8, 61), rfl, by decide, by decide +kernel, fun w h => List.mem_cons_of_mem _ (List.mem_append_right _ h)⟩, List.forall_mem_cons.mpr ⟨⟨(RX8, TX8, 61), rfl, by decide, by decide +kernel, fun w h => List.mem_cons_of_mem _ (List.mem_append_right _ h)⟩, List.forall_mem_cons.mpr ⟨⟨(RX8, TX8, 61), rfl, by decide, by decide +kernel, fun w h => List.mem_cons_of_mem _ (List.mem_append_right _ h)⟩, fun _ h => absurd h List.not_mem_nil⟩⟩⟩⟩⟩⟩
set_option maxRecDepth 100000 in
theorem qX8_act_ok : ∀ q ∈ qX8_act, pm_Kok wsX8_act yX8_act.cls q.1 q.2 := List.forall_mem_cons.mpr ⟨(by decide +kernel : _ ∈ wsX8_act), fun _ h => absurd h List.not_mem_nil⟩
set_option maxRecDepth 100000 in
theorem conX8_act (l : Launch) : pm_Con l yX8_act wsX8_act mX8_act shM 44 kX8_act := pm_met_con (cc := cX8_act) (by decide +kernel) rfl shM_N tX8_act_ok fX8_act_ok qX8_act_ok (fun _ h => absurd h List.not_mem_nil)

def tX8_clear : List (Nat × (Instr × Nat)) := [(0, (.aload_n 0, 1)), (1, (.getfield 145, 3)), (4, (.istore_n 1, 1)), (5, (.aload_n 0, 1)), (6, (.iconst 0, 1)), (7, (.putfield 145, 3)), (10, (.iload_n 1, 1)), (11, (.ireturn, 1))]
def fX8_clear : List (Nat × (Nat × Nat)) := [(145, (7, 1))]
def qX8_clear : List (Nat × (Int32 ⊕ Int64)) := []
noncomputable def lX8_clear : List (Nat × (Nat × (Option Nat × pFN))) := []
noncomputable def kX8_clear : pFN := pm_met shM (some 7) tX8_clear fX8_clear qX8_clear lX8_clear 2 1
def mX8_clear : Room := { frames := 0, cells := 0, slots := 0, locals := 0 }
set_option maxRecDepth 100000 in
theorem tX8_clear_ok : ∀ q ∈ tX8_clear, decode cX8_clear q.1 = .ok q.2 ∧ pm_tok q.1 q.2.1 q.2.2 = true := by decide +kernel
set_option maxRecDepth 100000 in
theorem fX8_clear_ok : ∀ q ∈ fX8_clear, pm_Fok wsX8_clear yX8_clear.cls q.1 q.2.1 q.2.2 := List.forall_mem_cons.mpr ⟨⟨(RX8, TX8, 61), rfl, by decide, by decide +kernel, fun w h => List.mem_cons_of_mem _ (List.mem_append_right _ h)⟩, fun _ h => absurd h List.not_mem_nil⟩
set_option maxRecDepth 100000 in
theorem qX8_clear_ok : ∀ q ∈ qX8_clear, pm_Kok wsX8_clear yX8_clear.cls q.1 q.2 := fun _ h => absurd h List.not_mem_nil
set_option maxRecDepth 100000 in
theorem conX8_clear (l : Launch) : pm_Con l yX8_clear wsX8_clear mX8_clear shM 44 kX8_clear := pm_met_con (cc := cX8_clear) (by decide +kernel) rfl shM_N tX8_clear_ok fX8_clear_ok qX8_clear_ok (fun _ h => absurd h List.not_mem_nil)

def tX8_leaf : List (Nat × (Instr × Nat)) := [(0, (.iload_n 1, 1)), (1, (.ifCond .lt 9, 3)), (4, (.iload_n 1, 1)), (5, (.bipush 32, 2)), (7, (.if_icmp .lt 5, 3)), (10, (.iconst 0, 1)), (11, (.ireturn, 1)), (12, (.aload_n 0, 1)), (13, (.getfield 7, 3)), (16, (.iload_n 1, 1)), (17, (.lload_n 2, 1)), (18, (.lastore, 1)), (19, (.iconst 1, 1)), (20, (.ireturn, 1))]
def fX8_leaf : List (Nat × (Nat × Nat)) := [(7, (7, 0))]
def qX8_leaf : List (Nat × (Int32 ⊕ Int64)) := []
noncomputable def lX8_leaf : List (Nat × (Nat × (Option Nat × pFN))) := []
noncomputable def kX8_leaf : pFN := pm_met shM (some 7) tX8_leaf fX8_leaf qX8_leaf lX8_leaf 4 2
def mX8_leaf : Room := { frames := 0, cells := 0, slots := 0, locals := 0 }
set_option maxRecDepth 100000 in
theorem tX8_leaf_ok : ∀ q ∈ tX8_leaf, decode cX8_leaf q.1 = .ok q.2 ∧ pm_tok q.1 q.2.1 q.2.2 = true := by decide +kernel
set_option maxRecDepth 100000 in
theorem fX8_leaf_ok : ∀ q ∈ fX8_leaf, pm_Fok wsX8_leaf yX8_leaf.cls q.1 q.2.1 q.2.2 := List.forall_mem_cons.mpr ⟨⟨(RX8, TX8, 61), rfl, by decide, by decide +kernel, fun w h => List.mem_cons_of_mem _ (List.mem_append_right _ h)⟩, fun _ h => absurd h List.not_mem_nil⟩
set_option maxRecDepth 100000 in
theorem qX8_leaf_ok : ∀ q ∈ qX8_leaf, pm_Kok wsX8_leaf yX8_leaf.cls q.1 q.2 := fun _ h => absurd h List.not_mem_nil
set_option maxRecDepth 100000 in
theorem conX8_leaf (l : Launch) : pm_Con l yX8_leaf wsX8_leaf mX8_leaf shM 44 kX8_leaf := pm_met_con (cc := cX8_leaf) (by decide +kernel) rfl shM_N tX8_leaf_ok fX8_leaf_ok qX8_leaf_ok (fun _ h => absurd h List.not_mem_nil)

def tX8_bound : List (Nat × (Instr × Nat)) := [(0, (.iload_n 1, 1)), (1, (.iconst 1, 1)), (2, (.if_icmp .lt 9, 3)), (5, (.iload_n 1, 1)), (6, (.bipush 100, 2)), (8, (.if_icmp .le 5, 3)), (11, (.iconst 0, 1)), (12, (.ireturn, 1)), (13, (.aload_n 0, 1)), (14, (.iload_n 1, 1)), (15, (.putfield 141, 3)), (18, (.iconst 1, 1)), (19, (.ireturn, 1))]
def fX8_bound : List (Nat × (Nat × Nat)) := [(141, (7, 2))]
def qX8_bound : List (Nat × (Int32 ⊕ Int64)) := []
noncomputable def lX8_bound : List (Nat × (Nat × (Option Nat × pFN))) := []
noncomputable def kX8_bound : pFN := pm_met shM (some 7) tX8_bound fX8_bound qX8_bound lX8_bound 2 2
def mX8_bound : Room := { frames := 0, cells := 0, slots := 0, locals := 0 }
set_option maxRecDepth 100000 in
theorem tX8_bound_ok : ∀ q ∈ tX8_bound, decode cX8_bound q.1 = .ok q.2 ∧ pm_tok q.1 q.2.1 q.2.2 = true := by decide +kernel
set_option maxRecDepth 100000 in
theorem fX8_bound_ok : ∀ q ∈ fX8_bound, pm_Fok wsX8_bound yX8_bound.cls q.1 q.2.1 q.2.2 := List.forall_mem_cons.mpr ⟨⟨(RX8, TX8, 61), rfl, by decide, by decide +kernel, fun w h => List.mem_cons_of_mem _ (List.mem_append_right _ h)⟩, fun _ h => absurd h List.not_mem_nil⟩
set_option maxRecDepth 100000 in
theorem qX8_bound_ok : ∀ q ∈ qX8_bound, pm_Kok wsX8_bound yX8_bound.cls q.1 q.2 := fun _ h => absurd h List.not_mem_nil
set_option maxRecDepth 100000 in
theorem conX8_bound (l : Launch) : pm_Con l yX8_bound wsX8_bound mX8_bound shM 44 kX8_bound := pm_met_con (cc := cX8_bound) (by decide +kernel) rfl shM_N tX8_bound_ok fX8_bound_ok qX8_bound_ok (fun _ h => absurd h List.not_mem_nil)

def tX8_begin : List (Nat × (Instr × Nat)) := [(0, (.aload_n 0, 1)), (1, (.getfield 66, 3)), (4, (.iload_n 1, 1)), (5, (.dup2, 1)), (6, (.iaload, 1)), (7, (.iconst 1, 1)), (8, (.iadd, 1)), (9, (.iastore, 1)), (10, (.aload_n 0, 1)), (11, (.getfield 29, 3)), (14, (.iload_n 1, 1)), (15, (.iconst 0, 1)), (16, (.iastore, 1)), (17, (.aload_n 0, 1)), (18, (.getfield 69, 3)), (21, (.iload_n 1, 1)), (22, (.iconst 0, 1)), (23, (.iastore, 1)), (24, (.aload_n 0, 1)), (25, (.getfield 35, 3)), (28, (.iload_n 1, 1)), (29, (.iconst 0, 1)), (30, (.bastore, 1)), (31, (.aload_n 0, 1)), (32, (.getfield 45, 3)), (35, (.iload_n 1, 1)), (36, (.iconst 0, 1)), (37, (.iastore, 1)), (38, (.aload_n 0, 1)), (39, (.getfield 60, 3)), (42, (.iload_n 1, 1)), (43, (.iconst 0, 1)), (44, (.iastore, 1)), (45, (.iconst 0, 1)), (46, (.istore_n 2, 1)), (47, (.iload_n 2, 1)), (48, (.iconst 4, 1)), (49, (.if_icmp .ge 20, 3)), (52, (.aload_n 0, 1)), (53, (.getfield 32, 3)), (56, (.iconst 4, 1)), (57, (.iload_n 1, 1)), (58, (.imul, 1)), (59, (.iload_n 2, 1)), (60, (.iadd, 1)), (61, (.lconst 0, 1)), (62, (.lastore, 1)), (63, (.iinc 2 1, 3)), (66, (.goto (-19), 3)), (69, (.iconst 0, 1)), (70, (.istore_n 2, 1)), (71, (.iload_n 2, 1)), (72, (.bipush 32, 2)), (74, (.if_icmp .ge 21, 3)), (77, (.aload_n 0, 1)), (78, (.getfield 39, 3)), (81, (.bipush 32, 2)), (83, (.iload_n 1, 1)), (84, (.imul, 1)), (85, (.iload_n 2, 1)), (86, (.iadd, 1)), (87, (.iconst 0, 1)), (88, (.bastore, 1)), (89, (.iinc 2 1, 3)), (92, (.goto (-21), 3)), (95, (.return_, 1))]
def fX8_begin : List (Nat × (Nat × Nat)) := [(66, (7, 20)), (29, (7, 8)), (69, (7, 21)), (35, (7, 10)), (45, (7, 13)), (60, (7, 18)), (32, (7, 9)), (39, (7, 11))]
def qX8_begin : List (Nat × (Int32 ⊕ Int64)) := []
noncomputable def lX8_begin : List (Nat × (Nat × (Option Nat × pFN))) := []
noncomputable def kX8_begin : pFN := pm_met shM (some 7) tX8_begin fX8_begin qX8_begin lX8_begin 3 0
def mX8_begin : Room := { frames := 0, cells := 0, slots := 0, locals := 0 }
set_option maxRecDepth 100000 in
theorem tX8_begin_ok : ∀ q ∈ tX8_begin, decode cX8_begin q.1 = .ok q.2 ∧ pm_tok q.1 q.2.1 q.2.2 = true := by decide +kernel
set_option maxRecDepth 100000 in
theorem fX8_begin_ok : ∀ q ∈ fX8_begin, pm_Fok wsX8_begin yX8_begin.cls q.1 q.2.1 q.2.2 := List.forall_mem_cons.mpr ⟨⟨(RX8, TX8, 61), rfl, by decide, by decide +kernel, fun w h => List.mem_cons_of_mem _ (List.mem_append_right _ h)⟩, List.forall_mem_cons.mpr ⟨⟨(RX8, TX8, 61), rfl, by decide, by decide +kernel, fun w h => List.mem_cons_of_mem _ (List.mem_append_right _ h)⟩, List.forall_mem_cons.mpr ⟨⟨(RX8, TX8, 61), rfl, by decide, by decide +kernel, fun w h => List.mem_cons_of_mem _ (List.mem_append_right _ h)⟩, List.forall_mem_cons.mpr ⟨⟨(RX8, TX8, 61), rfl, by decide, by decide +kernel, fun w h => List.mem_cons_of_mem _ (List.mem_append_right _ h)⟩, List.forall_mem_cons.mpr ⟨⟨(RX8, TX8, 61), rfl, by decide, by decide +kernel, fun w h => List.mem_cons_of_mem _ (List.mem_append_right _ h)⟩, List.forall_mem_cons.mpr ⟨⟨(RX8, TX8, 61), rfl, by decide, by decide +kernel, fun w h => List.mem_cons_of_mem _ (List.mem_append_right _ h)⟩, List.forall_mem_cons.mpr ⟨⟨(RX8, TX8, 61), rfl, by decide, by decide +kernel, fun w h => List.mem_cons_of_mem _ (List.mem_append_right _ h)⟩, List.forall_mem_cons.mpr ⟨⟨(RX8, TX8, 61), rfl, by decide, by decide +kernel, fun w h => List.mem_cons_of_mem _ (List.mem_append_right _ h)⟩, fun _ h => absurd h List.not_mem_nil⟩⟩⟩⟩⟩⟩⟩⟩
set_option maxRecDepth 100000 in
theorem qX8_begin_ok : ∀ q ∈ qX8_begin, pm_Kok wsX8_begin yX8_begin.cls q.1 q.2 := fun _ h => absurd h List.not_mem_nil
set_option maxRecDepth 100000 in
theorem conX8_begin (l : Launch) : pm_Con l yX8_begin wsX8_begin mX8_begin shM 44 kX8_begin := pm_met_con (cc := cX8_begin) (by decide +kernel) rfl shM_N tX8_begin_ok fX8_begin_ok qX8_begin_ok (fun _ h => absurd h List.not_mem_nil)

def tX8_see : List (Nat × (Instr × Nat)) := [(0, (.aload_n 0, 1)), (1, (.iconst (-1), 1)), (2, (.putfield 150, 3)), (5, (.aload_n 0, 1)), (6, (.iconst 0, 1)), (7, (.putfield 153, 3)), (10, (.aload_n 0, 1)), (11, (.iconst 0, 1)), (12, (.putfield 156, 3)), (15, (.aload_n 0, 1)), (16, (.aload_n 0, 1)), (17, (.getfield 7, 3)), (20, (.iload_n 2, 1)), (21, (.laload, 1)), (22, (.putfield 160, 3)), (25, (.iconst 0, 1)), (26, (.istore_n 3, 1)), (27, (.iload_n 3, 1)), (28, (.iload_n 1, 1)), (29, (.if_icmp .ge 65, 3)), (32, (.bipush 32, 2)), (34, (.iload_n 3, 1)), (35, (.imul, 1)), (36, (.iload_n 2, 1)), (37, (.iadd, 1)), (38, (.istore 4, 2)), (40, (.aload_n 0, 1)), (41, (.getfield 72, 3)), (44, (.iload 4, 2)), (46, (.baload, 1)), (47, (.ifCond .eq 41, 3)), (50, (.aload_n 0, 1)), (51, (.iload_n 3, 1)), (52, (.putfield 150, 3)), (55, (.aload_n 0, 1)), (56, (.aload_n 0, 1)), (57, (.getfield 81, 3)), (60, (.iload 4, 2)), (62, (.iaload, 1)), (63, (.putfield 153, 3)), (66, (.aload_n 0, 1)), (67, (.aload_n 0, 1)), (68, (.getfield 75, 3)), (71, (.iload 4, 2)), (73, (.baload, 1)), (74, (.putfield 156, 3)), (77, (.aload_n 0, 1)), (78, (.aload_n 0, 1)), (79, (.getfield 78, 3)), (82, (.iload 4, 2)), (84, (.laload, 1)), (85, (.putfield 160, 3)), (88, (.iinc 3 1, 3)), (91, (.goto (-64), 3)), (94, (.return_, 1))]
def fX8_see : List (Nat × (Nat × Nat)) := [(150, (7, 27)), (153, (7, 28)), (156, (7, 29)), (7, (7, 0)), (160, (7, 30)), (72, (7, 23)), (81, (7, 26)), (75, (7, 24)), (78, (7, 25))]
def qX8_see : List (Nat × (Int32 ⊕ Int64)) := []
noncomputable def lX8_see : List (Nat × (Nat × (Option Nat × pFN))) := []
noncomputable def kX8_see : pFN := pm_met shM (some 7) tX8_see fX8_see qX8_see lX8_see 5 0
def mX8_see : Room := { frames := 0, cells := 0, slots := 0, locals := 0 }
set_option maxRecDepth 100000 in
theorem tX8_see_ok : ∀ q ∈ tX8_see, decode cX8_see q.1 = .ok q.2 ∧ pm_tok q.1 q.2.1 q.2.2 = true := by decide +kernel
set_option maxRecDepth 100000 in
theorem fX8_see_ok : ∀ q ∈ fX8_see, pm_Fok wsX8_see yX8_see.cls q.1 q.2.1 q.2.2 := List.forall_mem_cons.mpr ⟨⟨(RX8, TX8, 61), rfl, by decide, by decide +kernel, fun w h => List.mem_cons_of_mem _ (List.mem_append_right _ h)⟩, List.forall_mem_cons.mpr ⟨⟨(RX8, TX8, 61), rfl, by decide, by decide +kernel, fun w h => List.mem_cons_of_mem _ (List.mem_append_right _ h)⟩, List.forall_mem_cons.mpr ⟨⟨(RX8, TX8, 61), rfl, by decide, by decide +kernel, fun w h => List.mem_cons_of_mem _ (List.mem_append_right _ h)⟩, List.forall_mem_cons.mpr ⟨⟨(RX8, TX8, 61), rfl, by decide, by decide +kernel, fun w h => List.mem_cons_of_mem _ (List.mem_append_right _ h)⟩, List.forall_mem_cons.mpr ⟨⟨(RX8, TX8, 61), rfl, by decide, by decide +kernel, fun w h => List.mem_cons_of_mem _ (List.mem_append_right _ h)⟩, List.forall_mem_cons.mpr ⟨⟨(RX8, TX8, 61), rfl, by decide, by decide +kernel, fun w h => List.mem_cons_of_mem _ (List.mem_append_right _ h)⟩, List.forall_mem_cons.mpr ⟨⟨(RX8, TX8, 61), rfl, by decide, by decide +kernel, fun w h => List.mem_cons_of_mem _ (List.mem_append_right _ h)⟩, List.forall_mem_cons.mpr ⟨⟨(RX8, TX8, 61), rfl, by decide, by decide +kernel, fun w h => List.mem_cons_of_mem _ (List.mem_append_right _ h)⟩, List.forall_mem_cons.mpr ⟨⟨(RX8, TX8, 61), rfl, by decide, by decide +kernel, fun w h => List.mem_cons_of_mem _ (List.mem_append_right _ h)⟩, fun _ h => absurd h List.not_mem_nil⟩⟩⟩⟩⟩⟩⟩⟩⟩
set_option maxRecDepth 100000 in
theorem qX8_see_ok : ∀ q ∈ qX8_see, pm_Kok wsX8_see yX8_see.cls q.1 q.2 := fun _ h => absurd h List.not_mem_nil
set_option maxRecDepth 100000 in
theorem conX8_see (l : Launch) : pm_Con l yX8_see wsX8_see mX8_see shM 44 kX8_see := pm_met_con (cc := cX8_see) (by decide +kernel) rfl shM_N tX8_see_ok fX8_see_ok qX8_see_ok (fun _ h => absurd h List.not_mem_nil)

def tX8_leafOf : List (Nat × (Instr × Nat)) := [(0, (.lload_n 0, 1)), (1, (.ldc2_w 164, 3)), (4, (.lrem, 1)), (5, (.l2i, 1)), (6, (.istore_n 2, 1)), (7, (.iload_n 2, 1)), (8, (.ifCond .ge 10, 3)), (11, (.iload_n 2, 1)), (12, (.bipush 32, 2)), (14, (.iadd, 1)), (15, (.goto 4, 3)), (18, (.iload_n 2, 1)), (19, (.ireturn, 1))]
def fX8_leafOf : List (Nat × (Nat × Nat)) := []
def qX8_leafOf : List (Nat × (Int32 ⊕ Int64)) := [(164, .inr (32))]
noncomputable def lX8_leafOf : List (Nat × (Nat × (Option Nat × pFN))) := []
noncomputable def kX8_leafOf : pFN := pm_met shM (none) tX8_leafOf fX8_leafOf qX8_leafOf lX8_leafOf 3 1
def mX8_leafOf : Room := { frames := 0, cells := 0, slots := 0, locals := 0 }
set_option maxRecDepth 100000 in
theorem tX8_leafOf_ok : ∀ q ∈ tX8_leafOf, decode cX8_leafOf q.1 = .ok q.2 ∧ pm_tok q.1 q.2.1 q.2.2 = true := by decide +kernel
set_option maxRecDepth 100000 in
theorem fX8_leafOf_ok : ∀ q ∈ fX8_leafOf, pm_Fok wsX8_leafOf yX8_leafOf.cls q.1 q.2.1 q.2.2 := fun _ h => absurd h List.not_mem_nil
set_option maxRecDepth 100000 in
theorem qX8_leafOf_ok : ∀ q ∈ qX8_leafOf, pm_Kok wsX8_leafOf yX8_leafOf.cls q.1 q.2 := List.forall_mem_cons.mpr ⟨(by decide +kernel : _ ∈ wsX8_leafOf), fun _ h => absurd h List.not_mem_nil⟩
set_option maxRecDepth 100000 in
theorem conX8_leafOf (l : Launch) : pm_Con l yX8_leafOf wsX8_leafOf mX8_leafOf shM 44 kX8_leafOf := pm_met_con (cc := cX8_leafOf) (by decide +kernel) rfl shM_N tX8_leafOf_ok fX8_leafOf_ok qX8_leafOf_ok (fun _ h => absurd h List.not_mem_nil)

def tX8_doAct : List (Nat × (Instr × Nat)) := [(0, (.bipush 12, 2)), (2, (.iload_n 1, 1)), (3, (.imul, 1)), (4, (.aload_n 0, 1)), (5, (.getfield 29, 3)), (8, (.iload_n 1, 1)), (9, (.iaload, 1)), (10, (.iadd, 1)), (11, (.istore_n 2, 1)), (12, (.iconst 4, 1)), (13, (.iload_n 1, 1)), (14, (.imul, 1)), (15, (.aload_n 0, 1)), (16, (.getfield 20, 3)), (19, (.iload_n 2, 1)), (20, (.iaload, 1)), (21, (.iadd, 1)), (22, (.istore_n 3, 1)), (23, (.iconst 4, 1)), (24, (.iload_n 1, 1)), (25, (.imul, 1)), (26, (.aload_n 0, 1)), (27, (.getfield 23, 3)), (30, (.iload_n 2, 1)), (31, (.iaload, 1)), (32, (.iadd, 1)), (33, (.istore 4, 2)), (35, (.aload_n 0, 1)), (36, (.getfield 17, 3)), (39, (.iload_n 2, 1)), (40, (.iaload, 1)), (41, (.istore 5, 2)), (43, (.iload 5, 2)), (45, (.iconst 1, 1)), (46, (.if_icmp .ne 218, 3)), (49, (.aload_n 0, 1)), (50, (.getfield 26, 3)), (53, (.iload_n 2, 1)), (54, (.laload, 1)), (55, (.aload_n 0, 1)), (56, (.getfield 32, 3)), (59, (.iload 4, 2)), (61, (.laload, 1)), (62, (.ladd, 1)), (63, (.invokestatic 166, 3)), (66, (.istore 6, 2)), (68, (.aload_n 0, 1)), (69, (.getfield 39, 3)), (72, (.bipush 32, 2)), (74, (.iload_n 1, 1)), (75, (.imul, 1)), (76, (.iload 6, 2)), (78, (.iadd, 1)), (79, (.baload, 1)), (80, (.ifCond .eq 24, 3)), (83, (.aload_n 0, 1)), (84, (.getfield 32, 3)), (87, (.iload_n 3, 1)), (88, (.aload_n 0, 1)), (89, (.getfield 42, 3)), (92, (.bipush 32, 2)), (94, (.iload_n 1, 1)), (95, (.imul, 1)), (96, (.iload 6, 2)), (98, (.iadd, 1)), (99, (.laload, 1)), (100, (.lastore, 1)), (101, (.goto 160, 3)), (104, (.iconst 0, 1)), (105, (.istore 7, 2)), (107, (.iload 7, 2)), (109, (.aload_n 0, 1)), (110, (.getfield 45, 3)), (113, (.iload_n 1, 1)), (114, (.iaload, 1)), (115, (.if_icmp .ge 26, 3)), (118, (.aload_n 0, 1)), (119, (.getfield 48, 3)), (122, (.bipush 32, 2)), (124, (.iload_n 1, 1)), (125, (.imul, 1)), (126, (.iload 7, 2)), (128, (.iadd, 1)), (129, (.iaload, 1)), (130, (.iload 6, 2)), (132, (.if_icmp .eq 9, 3)), (135, (.iinc 7 1, 3)), (138, (.goto (-31), 3)), (141, (.iload 7, 2)), (143, (.aload_n 0, 1)), (144, (.getfield 45, 3)), (147, (.iload_n 1, 1)), (148, (.iaload, 1)), (149, (.if_icmp .ne 94, 3)), (152, (.aload_n 0, 1)), (153, (.iload_n 1, 1)), (154, (.iload 6, 2)), (156, (.invokevirtual 170, 3)), (159, (.aload_n 0, 1)), (160, (.getfield 156, 3)), (163, (.ifCond .eq 8, 3)), (166, (.aload_n 0, 1)), (167, (.getfield 150, 3)), (170, (.ireturn, 1)), (171, (.aload_n 0, 1)), (172, (.getfield 48, 3)), (175, (.bipush 32, 2)), (177, (.iload_n 1, 1)), (178, (.imul, 1)), (179, (.iload 7, 2)), (181, (.iadd, 1)), (182, (.iload 6, 2)), (184, (.iastore, 1)), (185, (.aload_n 0, 1)), (186, (.getfield 51, 3)), (189, (.bipush 32, 2)), (191, (.iload_n 1, 1)), (192, (.imul, 1)), (193, (.iload 7, 2)), (195, (.iadd, 1)), (196, (.aload_n 0, 1)), (197, (.getfield 150, 3)), (200, (.iastore, 1)), (201, (.aload_n 0, 1)), (202, (.getfield 54, 3)), (205, (.bipush 32, 2)), (207, (.iload_n 1, 1)), (208, (.imul, 1)), (209, (.iload 7, 2)), (211, (.iadd, 1)), (212, (.aload_n 0, 1)), (213, (.getfield 153, 3)), (216, (.iastore, 1)), (217, (.aload_n 0, 1)), (218, (.getfield 57, 3)), (221, (.bipush 32, 2)), (223, (.iload_n 1, 1)), (224, (.imul, 1)), (225, (.iload 7, 2)), (227, (.iadd, 1)), (228, (.aload_n 0, 1)), (229, (.getfield 160, 3)), (232, (.lastore, 1)), (233, (.aload_n 0, 1)), (234, (.getfield 45, 3)), (237, (.iload_n 1, 1)), (238, (.dup2, 1)), (239, (.iaload, 1)), (240, (.iconst 1, 1)), (241, (.iadd, 1)), (242, (.iastore, 1)), (243, (.aload_n 0, 1)), (244, (.getfield 32, 3)), (247, (.iload_n 3, 1)), (248, (.aload_n 0, 1)), (249, (.getfield 57, 3)), (252, (.bipush 32, 2)), (254, (.iload_n 1, 1)), (255, (.imul, 1)), (256, (.iload 7, 2)), (258, (.iadd, 1)), (259, (.laload, 1)), (260, (.lastore, 1)), (261, (.goto 272, 3)), (264, (.iload 5, 2)), (266, (.ifCond .ne 18, 3)), (269, (.aload_n 0, 1)), (270, (.getfield 32, 3)), (273, (.iload_n 3, 1)), (274, (.aload_n 0, 1)), (275, (.getfield 26, 3)), (278, (.iload_n 2, 1)), (279, (.laload, 1)), (280, (.lastore, 1)), (281, (.goto 252, 3)), (284, (.iload 5, 2)), (286, (.iconst 2, 1)), (287, (.if_icmp .ne 56, 3)), (290, (.aload_n 0, 1)), (291, (.getfield 26, 3)), (294, (.iload_n 2, 1)), (295, (.laload, 1)), (296, (.aload_n 0, 1)), (297, (.getfield 32, 3)), (300, (.iload 4, 2)), (302, (.laload, 1)), (303, (.ladd, 1)), (304, (.invokestatic 166, 3)), (307, (.istore 6, 2)), (309, (.aload_n 0, 1)), (310, (.getfield 39, 3)), (313, (.bipush 32, 2)), (315, (.iload_n 1, 1)), (316, (.imul, 1)), (317, (.iload 6, 2)), (319, (.iadd, 1)), (320, (.iconst 1, 1)), (321, (.bastore, 1)), (322, (.aload_n 0, 1)), (323, (.getfield 42, 3)), (326, (.bipush 32, 2)), (328, (.iload_n 1, 1)), (329, (.imul, 1)), (330, (.iload 6, 2)), (332, (.iadd, 1)), (333, (.aload_n 0, 1)), (334, (.getfield 32, 3)), (337, (.iload_n 3, 1)), (338, (.laload, 1)), (339, (.lastore, 1)), (340, (.goto 193, 3)), (343, (.iload 5, 2)), (345, (.iconst 3, 1)), (346, (.if_icmp .ne 26, 3)), (349, (.aload_n 0, 1)), (350, (.getfield 32, 3)), (353, (.iload_n 3, 1)), (354, (.aload_n 0, 1)), (355, (.getfield 32, 3)), (358, (.iload_n 3, 1)), (359, (.laload, 1)), (360, (.aload_n 0, 1)), (361, (.getfield 32, 3)), (364, (.iload 4, 2)), (366, (.laload, 1)), (367, (.ladd, 1)), (368, (.lastore, 1)), (369, (.goto 164, 3)), (372, (.iload 5, 2)), (374, (.iconst 4, 1)), (375, (.if_icmp .ne 26, 3)), (378, (.aload_n 0, 1)), (379, (.getfield 32, 3)), (382, (.iload_n 3, 1)), (383, (.aload_n 0, 1)), (384, (.getfield 32, 3)), (387, (.iload_n 3, 1)), (388, (.laload, 1)), (389, (.aload_n 0, 1)), (390, (.getfield 32, 3)), (393, (.iload 4, 2)), (395, (.laload, 1)), (396, (.lsub, 1)), (397, (.lastore, 1)), (398, (.goto 135, 3)), (401, (.iload 5, 2)), (403, (.iconst 5, 1)), (404, (.if_icmp .ne 26, 3)), (407, (.aload_n 0, 1)), (408, (.getfield 32, 3)), (411, (.iload_n 3, 1)), (412, (.aload_n 0, 1)), (413, (.getfield 32, 3)), (416, (.iload_n 3, 1)), (417, (.laload, 1)), (418, (.aload_n 0, 1)), (419, (.getfield 32, 3)), (422, (.iload 4, 2)), (424, (.laload, 1)), (425, (.lmul, 1)), (426, (.lastore, 1)), (427, (.goto 106, 3)), (430, (.iload 5, 2)), (432, (.bipush 6, 2)), (434, (.if_icmp .ne 39, 3)), (437, (.aload_n 0, 1)), (438, (.getfield 32, 3)), (441, (.iload_n 3, 1)), (442, (.laload, 1)), (443, (.aload_n 0, 1)), (444, (.getfield 32, 3)), (447, (.iload 4, 2)), (449, (.laload, 1)), (450, (.lcmp, 1)), (451, (.ifCond .ge 82, 3)), (454, (.aload_n 0, 1)), (455, (.getfield 29, 3)), (458, (.iload_n 1, 1)), (459, (.dup2, 1)), (460, (.iaload, 1)), (461, (.aload_n 0, 1)), (462, (.getfield 26, 3)), (465, (.iload_n 2, 1)), (466, (.laload, 1)), (467, (.l2i, 1)), (468, (.iadd, 1)), (469, (.iastore, 1)), (470, (.goto 63, 3)), (473, (.iload 5, 2)), (475, (.bipush 7, 2)), (477, (.if_icmp .ne 38, 3)), (480, (.aload_n 0, 1)), (481, (.getfield 63, 3)), (484, (.bipush 12, 2)), (486, (.iload_n 1, 1)), (487, (.imul, 1)), (488, (.aload_n 0, 1)), (489, (.getfield 60, 3)), (492, (.iload_n 1, 1)), (493, (.iaload, 1)), (494, (.iadd, 1)), (495, (.aload_n 0, 1)), (496, (.getfield 32, 3)), (499, (.iload_n 3, 1)), (500, (.laload, 1)), (501, (.lastore, 1)), (502, (.aload_n 0, 1)), (503, (.getfield 60, 3)), (506, (.iload_n 1, 1)), (507, (.dup2, 1)), (508, (.iaload, 1)), (509, (.iconst 1, 1)), (510, (.iadd, 1)), (511, (.iastore, 1)), (512, (.goto 21, 3)), (515, (.aload_n 0, 1)), (516, (.getfield 32, 3)), (519, (.iload_n 3, 1)), (520, (.laload, 1)), (521, (.lconst 0, 1)), (522, (.lcmp, 1)), (523, (.ifCond .ge 10, 3)), (526, (.aload_n 0, 1)), (527, (.getfield 35, 3)), (530, (.iload_n 1, 1)), (531, (.iconst 1, 1)), (532, (.bastore, 1)), (533, (.aload_n 0, 1)), (534, (.getfield 29, 3)), (537, (.iload_n 1, 1)), (538, (.dup2, 1)), (539, (.iaload, 1)), (540, (.iconst 1, 1)), (541, (.iadd, 1)), (542, (.iastore, 1)), (543, (.aload_n 0, 1)), (544, (.getfield 69, 3)), (547, (.iload_n 1, 1)), (548, (.dup2, 1)), (549, (.iaload, 1)), (550, (.iconst 1, 1)), (551, (.iadd, 1)), (552, (.iastore, 1)), (553, (.aload_n 0, 1)), (554, (.dup, 1)), (555, (.getfield 174, 3)), (558, (.iconst 1, 1)), (559, (.iadd, 1)), (560, (.putfield 174, 3)), (563, (.iconst (-1), 1)), (564, (.ireturn, 1))]
def fX8_doAct : List (Nat × (Nat × Nat)) := [(29, (7, 8)), (20, (7, 5)), (23, (7, 6)), (17, (7, 4)), (26, (7, 7)), (32, (7, 9)), (39, (7, 11)), (42, (7, 12)), (45, (7, 13)), (48, (7, 14)), (156, (7, 29)), (150, (7, 27)), (51, (7, 15)), (54, (7, 16)), (153, (7, 28)), (57, (7, 17)), (160, (7, 30)), (63, (7, 19)), (60, (7, 18)), (35, (7, 10)), (69, (7, 21)), (174, (7, 22))]
def qX8_doAct : List (Nat × (Int32 ⊕ Int64)) := []
noncomputable def lX8_doAct : List (Nat × (Nat × (Option Nat × pFN))) := [(166, (1, (none, kX8_leafOf))), (170, (3, (some 7, kX8_see)))]
noncomputable def kX8_doAct : pFN := pm_met shM (some 7) tX8_doAct fX8_doAct qX8_doAct lX8_doAct 8 1
def mX8_doAct : Room := { frames := 1, cells := 0, slots := 0, locals := 24 }
set_option maxRecDepth 100000 in
theorem tX8_doAct_ok : ∀ q ∈ tX8_doAct, decode cX8_doAct q.1 = .ok q.2 ∧ pm_tok q.1 q.2.1 q.2.2 = true := by decide +kernel
set_option maxRecDepth 100000 in
theorem fX8_doAct_ok : ∀ q ∈ fX8_doAct, pm_Fok wsX8_doAct yX8_doAct.cls q.1 q.2.1 q.2.2 := List.forall_mem_cons.mpr ⟨⟨(RX8, TX8, 61), rfl, by decide, by decide +kernel, fun w h => List.mem_cons_of_mem _ (List.mem_append_right _ h)⟩, List.forall_mem_cons.mpr ⟨⟨(RX8, TX8, 61), rfl, by decide, by decide +kernel, fun w h => List.mem_cons_of_mem _ (List.mem_append_right _ h)⟩, List.forall_mem_cons.mpr ⟨⟨(RX8, TX8, 61), rfl, by decide, by decide +kernel, fun w h => List.mem_cons_of_mem _ (List.mem_append_right _ h)⟩, List.forall_mem_cons.mpr ⟨⟨(RX8, TX8, 61), rfl, by decide, by decide +kernel, fun w h => List.mem_cons_of_mem _ (List.mem_append_right _ h)⟩, List.forall_mem_cons.mpr ⟨⟨(RX8, TX8, 61), rfl, by decide, by decide +kernel, fun w h => List.mem_cons_of_mem _ (List.mem_append_right _ h)⟩, List.forall_mem_cons.mpr ⟨⟨(RX8, TX8, 61), rfl, by decide, by decide +kernel, fun w h => List.mem_cons_of_mem _ (List.mem_append_right _ h)⟩, List.forall_mem_cons.mpr ⟨⟨(RX8, TX8, 61), rfl, by decide, by decide +kernel, fun w h => List.mem_cons_of_mem _ (List.mem_append_right _ h)⟩, List.forall_mem_cons.mpr ⟨⟨(RX8, TX8, 61), rfl, by decide, by decide +kernel, fun w h => List.mem_cons_of_mem _ (List.mem_append_right _ h)⟩, List.forall_mem_cons.mpr ⟨⟨(RX8, TX8, 61), rfl, by decide, by decide +kernel, fun w h => List.mem_cons_of_mem _ (List.mem_append_right _ h)⟩, List.forall_mem_cons.mpr ⟨⟨(RX8, TX8, 61), rfl, by decide, by decide +kernel, fun w h => List.mem_cons_of_mem _ (List.mem_append_right _ h)⟩, List.forall_mem_cons.mpr ⟨⟨(RX8, TX8, 61), rfl, by decide, by decide +kernel, fun w h => List.mem_cons_of_mem _ (List.mem_append_right _ h)⟩, List.forall_mem_cons.mpr ⟨⟨(RX8, TX8, 61), rfl, by decide, by decide +kernel, fun w h => List.mem_cons_of_mem _ (List.mem_append_right _ h)⟩, List.forall_mem_cons.mpr ⟨⟨(RX8, TX8, 61), rfl, by decide, by decide +kernel, fun w h => List.mem_cons_of_mem _ (List.mem_append_right _ h)⟩, List.forall_mem_cons.mpr ⟨⟨(RX8, TX8, 61), rfl, by decide, by decide +kernel, fun w h => List.mem_cons_of_mem _ (List.mem_append_right _ h)⟩, List.forall_mem_cons.mpr ⟨⟨(RX8, TX8, 61), rfl, by decide, by decide +kernel, fun w h => List.mem_cons_of_mem _ (List.mem_append_right _ h)⟩, List.forall_mem_cons.mpr ⟨⟨(RX8, TX8, 61), rfl, by decide, by decide +kernel, fun w h => List.mem_cons_of_mem _ (List.mem_append_right _ h)⟩, List.forall_mem_cons.mpr ⟨⟨(RX8, TX8, 61), rfl, by decide, by decide +kernel, fun w h => List.mem_cons_of_mem _ (List.mem_append_right _ h)⟩, List.forall_mem_cons.mpr ⟨⟨(RX8, TX8, 61), rfl, by decide, by decide +kernel, fun w h => List.mem_cons_of_mem _ (List.mem_append_right _ h)⟩, List.forall_mem_cons.mpr ⟨⟨(RX8, TX8, 61), rfl, by decide, by decide +kernel, fun w h => List.mem_cons_of_mem _ (List.mem_append_right _ h)⟩, List.forall_mem_cons.mpr ⟨⟨(RX8, TX8, 61), rfl, by decide, by decide +kernel, fun w h => List.mem_cons_of_mem _ (List.mem_append_right _ h)⟩, List.forall_mem_cons.mpr ⟨⟨(RX8, TX8, 61), rfl, by decide, by decide +kernel, fun w h => List.mem_cons_of_mem _ (List.mem_append_right _ h)⟩, List.forall_mem_cons.mpr ⟨⟨(RX8, TX8, 61), rfl, by decide, by decide +kernel, fun w h => List.mem_cons_of_mem _ (List.mem_append_right _ h)⟩, fun _ h => absurd h List.not_mem_nil⟩⟩⟩⟩⟩⟩⟩⟩⟩⟩⟩⟩⟩⟩⟩⟩⟩⟩⟩⟩⟩⟩
set_option maxRecDepth 100000 in
theorem qX8_doAct_ok : ∀ q ∈ qX8_doAct, pm_Kok wsX8_doAct yX8_doAct.cls q.1 q.2 := fun _ h => absurd h List.not_mem_nil
set_option maxRecDepth 100000 in
theorem conX8_doAct (l : Launch) : pm_Con l yX8_doAct wsX8_doAct mX8_doAct shM 44 kX8_doAct := pm_met_con (cc := cX8_doAct) (by decide +kernel) rfl shM_N tX8_doAct_ok fX8_doAct_ok qX8_doAct_ok (List.forall_mem_cons.mpr ⟨Or.inl ⟨yX8_leafOf, wsX8_leafOf, _, mX8_leafOf, cX8_leafOf, 3, pm_rt 1, conX8_leafOf l, gX8_doAct_X8_leafOf, rfl, rfl, rfl, by decide +kernel, by decide⟩, List.forall_mem_cons.mpr ⟨⟨yX8_see, wsX8_see, _, mX8_see, cX8_see, 5, pm_rt 0, (RX8, TX8, 61), conX8_see l, pm_met_recv, rfl, gX8_doAct_X8_see, rfl, rfl, rfl, by decide +kernel, by decide⟩, fun _ h => absurd h List.not_mem_nil⟩⟩)

def tX8_isOver : List (Nat × (Instr × Nat)) := [(0, (.aload_n 0, 1)), (1, (.getfield 35, 3)), (4, (.iload_n 1, 1)), (5, (.baload, 1)), (6, (.ifCond .ne 18, 3)), (9, (.aload_n 0, 1)), (10, (.getfield 29, 3)), (13, (.iload_n 1, 1)), (14, (.iaload, 1)), (15, (.aload_n 0, 1)), (16, (.getfield 13, 3)), (19, (.iload_n 1, 1)), (20, (.iaload, 1)), (21, (.if_icmp .lt 7, 3)), (24, (.iconst 1, 1)), (25, (.goto 4, 3)), (28, (.iconst 0, 1)), (29, (.ireturn, 1))]
def fX8_isOver : List (Nat × (Nat × Nat)) := [(35, (7, 10)), (29, (7, 8)), (13, (7, 3))]
def qX8_isOver : List (Nat × (Int32 ⊕ Int64)) := []
noncomputable def lX8_isOver : List (Nat × (Nat × (Option Nat × pFN))) := []
noncomputable def kX8_isOver : pFN := pm_met shM (some 7) tX8_isOver fX8_isOver qX8_isOver lX8_isOver 2 2
def mX8_isOver : Room := { frames := 0, cells := 0, slots := 0, locals := 0 }
set_option maxRecDepth 100000 in
theorem tX8_isOver_ok : ∀ q ∈ tX8_isOver, decode cX8_isOver q.1 = .ok q.2 ∧ pm_tok q.1 q.2.1 q.2.2 = true := by decide +kernel
set_option maxRecDepth 100000 in
theorem fX8_isOver_ok : ∀ q ∈ fX8_isOver, pm_Fok wsX8_isOver yX8_isOver.cls q.1 q.2.1 q.2.2 := List.forall_mem_cons.mpr ⟨⟨(RX8, TX8, 61), rfl, by decide, by decide +kernel, fun w h => List.mem_cons_of_mem _ (List.mem_append_right _ h)⟩, List.forall_mem_cons.mpr ⟨⟨(RX8, TX8, 61), rfl, by decide, by decide +kernel, fun w h => List.mem_cons_of_mem _ (List.mem_append_right _ h)⟩, List.forall_mem_cons.mpr ⟨⟨(RX8, TX8, 61), rfl, by decide, by decide +kernel, fun w h => List.mem_cons_of_mem _ (List.mem_append_right _ h)⟩, fun _ h => absurd h List.not_mem_nil⟩⟩⟩
set_option maxRecDepth 100000 in
theorem qX8_isOver_ok : ∀ q ∈ qX8_isOver, pm_Kok wsX8_isOver yX8_isOver.cls q.1 q.2 := fun _ h => absurd h List.not_mem_nil
set_option maxRecDepth 100000 in
theorem conX8_isOver (l : Launch) : pm_Con l yX8_isOver wsX8_isOver mX8_isOver shM 44 kX8_isOver := pm_met_con (cc := cX8_isOver) (by decide +kernel) rfl shM_N tX8_isOver_ok fX8_isOver_ok qX8_isOver_ok (fun _ h => absurd h List.not_mem_nil)

def tX8_conflict0 : List (Nat × (Instr × Nat)) := [(0, (.aload_n 0, 1)), (1, (.getfield 177, 3)), (4, (.sipush 200, 3)), (7, (.if_icmp .ge 23, 3)), (10, (.aload_n 0, 1)), (11, (.getfield 105, 3)), (14, (.aload_n 0, 1)), (15, (.getfield 177, 3)), (18, (.iload_n 1, 1)), (19, (.iastore, 1)), (20, (.aload_n 0, 1)), (21, (.getfield 108, 3)), (24, (.aload_n 0, 1)), (25, (.getfield 177, 3)), (28, (.iload_n 2, 1)), (29, (.iastore, 1)), (30, (.aload_n 0, 1)), (31, (.dup, 1)), (32, (.getfield 177, 3)), (35, (.iconst 1, 1)), (36, (.iadd, 1)), (37, (.putfield 177, 3)), (40, (.return_, 1))]
def fX8_conflict0 : List (Nat × (Nat × Nat)) := [(177, (7, 47)), (105, (7, 48)), (108, (7, 49))]
def qX8_conflict0 : List (Nat × (Int32 ⊕ Int64)) := []
noncomputable def lX8_conflict0 : List (Nat × (Nat × (Option Nat × pFN))) := []
noncomputable def kX8_conflict0 : pFN := pm_met shM (some 7) tX8_conflict0 fX8_conflict0 qX8_conflict0 lX8_conflict0 3 0
def mX8_conflict0 : Room := { frames := 0, cells := 0, slots := 0, locals := 0 }
set_option maxRecDepth 100000 in
theorem tX8_conflict0_ok : ∀ q ∈ tX8_conflict0, decode cX8_conflict0 q.1 = .ok q.2 ∧ pm_tok q.1 q.2.1 q.2.2 = true := by decide +kernel
set_option maxRecDepth 100000 in
theorem fX8_conflict0_ok : ∀ q ∈ fX8_conflict0, pm_Fok wsX8_conflict0 yX8_conflict0.cls q.1 q.2.1 q.2.2 := List.forall_mem_cons.mpr ⟨⟨(RX8, TX8, 61), rfl, by decide, by decide +kernel, fun w h => List.mem_cons_of_mem _ (List.mem_append_right _ h)⟩, List.forall_mem_cons.mpr ⟨⟨(RX8, TX8, 61), rfl, by decide, by decide +kernel, fun w h => List.mem_cons_of_mem _ (List.mem_append_right _ h)⟩, List.forall_mem_cons.mpr ⟨⟨(RX8, TX8, 61), rfl, by decide, by decide +kernel, fun w h => List.mem_cons_of_mem _ (List.mem_append_right _ h)⟩, fun _ h => absurd h List.not_mem_nil⟩⟩⟩
set_option maxRecDepth 100000 in
theorem qX8_conflict0_ok : ∀ q ∈ qX8_conflict0, pm_Kok wsX8_conflict0 yX8_conflict0.cls q.1 q.2 := fun _ h => absurd h List.not_mem_nil
set_option maxRecDepth 100000 in
theorem conX8_conflict0 (l : Launch) : pm_Con l yX8_conflict0 wsX8_conflict0 mX8_conflict0 shM 44 kX8_conflict0 := pm_met_con (cc := cX8_conflict0) (by decide +kernel) rfl shM_N tX8_conflict0_ok fX8_conflict0_ok qX8_conflict0_ok (fun _ h => absurd h List.not_mem_nil)

def tX8_isDone : List (Nat × (Instr × Nat)) := [(0, (.iconst 1, 1)), (1, (.istore_n 2, 1)), (2, (.iconst 0, 1)), (3, (.istore_n 3, 1)), (4, (.iload_n 3, 1)), (5, (.iload_n 1, 1)), (6, (.if_icmp .ge 28, 3)), (9, (.iload_n 2, 1)), (10, (.ifCond .eq 16, 3)), (13, (.aload_n 0, 1)), (14, (.getfield 93, 3)), (17, (.iload_n 3, 1)), (18, (.iaload, 1)), (19, (.ifCond .ne 7, 3)), (22, (.iconst 1, 1)), (23, (.goto 4, 3)), (26, (.iconst 0, 1)), (27, (.istore_n 2, 1)), (28, (.iinc 3 1, 3)), (31, (.goto (-27), 3)), (34, (.iload_n 2, 1)), (35, (.ifCond .eq 29, 3)), (38, (.aload_n 0, 1)), (39, (.getfield 198, 3)), (42, (.aload_n 0, 1)), (43, (.getfield 145, 3)), (46, (.if_icmp .lt 18, 3)), (49, (.aload_n 0, 1)), (50, (.getfield 201, 3)), (53, (.aload_n 0, 1)), (54, (.getfield 145, 3)), (57, (.if_icmp .lt 7, 3)), (60, (.iconst 1, 1)), (61, (.goto 4, 3)), (64, (.iconst 0, 1)), (65, (.ireturn, 1))]
def fX8_isDone : List (Nat × (Nat × Nat)) := [(93, (7, 34)), (198, (7, 37)), (145, (7, 1)), (201, (7, 38))]
def qX8_isDone : List (Nat × (Int32 ⊕ Int64)) := []
noncomputable def lX8_isDone : List (Nat × (Nat × (Option Nat × pFN))) := []
noncomputable def kX8_isDone : pFN := pm_met shM (some 7) tX8_isDone fX8_isDone qX8_isDone lX8_isDone 4 2
def mX8_isDone : Room := { frames := 0, cells := 0, slots := 0, locals := 0 }
set_option maxRecDepth 100000 in
theorem tX8_isDone_ok : ∀ q ∈ tX8_isDone, decode cX8_isDone q.1 = .ok q.2 ∧ pm_tok q.1 q.2.1 q.2.2 = true := by decide +kernel
set_option maxRecDepth 100000 in
theorem fX8_isDone_ok : ∀ q ∈ fX8_isDone, pm_Fok wsX8_isDone yX8_isDone.cls q.1 q.2.1 q.2.2 := List.forall_mem_cons.mpr ⟨⟨(RX8, TX8, 61), rfl, by decide, by decide +kernel, fun w h => List.mem_cons_of_mem _ (List.mem_append_right _ h)⟩, List.forall_mem_cons.mpr ⟨⟨(RX8, TX8, 61), rfl, by decide, by decide +kernel, fun w h => List.mem_cons_of_mem _ (List.mem_append_right _ h)⟩, List.forall_mem_cons.mpr ⟨⟨(RX8, TX8, 61), rfl, by decide, by decide +kernel, fun w h => List.mem_cons_of_mem _ (List.mem_append_right _ h)⟩, List.forall_mem_cons.mpr ⟨⟨(RX8, TX8, 61), rfl, by decide, by decide +kernel, fun w h => List.mem_cons_of_mem _ (List.mem_append_right _ h)⟩, fun _ h => absurd h List.not_mem_nil⟩⟩⟩⟩
set_option maxRecDepth 100000 in
theorem qX8_isDone_ok : ∀ q ∈ qX8_isDone, pm_Kok wsX8_isDone yX8_isDone.cls q.1 q.2 := fun _ h => absurd h List.not_mem_nil
set_option maxRecDepth 100000 in
theorem conX8_isDone (l : Launch) : pm_Con l yX8_isDone wsX8_isDone mX8_isDone shM 44 kX8_isDone := pm_met_con (cc := cX8_isDone) (by decide +kernel) rfl shM_N tX8_isDone_ok fX8_isDone_ok qX8_isDone_ok (fun _ h => absurd h List.not_mem_nil)

def tX8_toLook : List (Nat × (Instr × Nat)) := [(0, (.aload_n 0, 1)), (1, (.getfield 93, 3)), (4, (.iload_n 1, 1)), (5, (.iconst 2, 1)), (6, (.iastore, 1)), (7, (.aload_n 0, 1)), (8, (.getfield 96, 3)), (11, (.iload_n 1, 1)), (12, (.iload_n 2, 1)), (13, (.iastore, 1)), (14, (.aload_n 0, 1)), (15, (.getfield 99, 3)), (18, (.iload_n 1, 1)), (19, (.aload_n 0, 1)), (20, (.getfield 87, 3)), (23, (.iload_n 2, 1)), (24, (.iaload, 1)), (25, (.iastore, 1)), (26, (.return_, 1))]
def fX8_toLook : List (Nat × (Nat × Nat)) := [(93, (7, 34)), (96, (7, 35)), (99, (7, 36)), (87, (7, 32))]
def qX8_toLook : List (Nat × (Int32 ⊕ Int64)) := []
noncomputable def lX8_toLook : List (Nat × (Nat × (Option Nat × pFN))) := []
noncomputable def kX8_toLook : pFN := pm_met shM (some 7) tX8_toLook fX8_toLook qX8_toLook lX8_toLook 3 0
def mX8_toLook : Room := { frames := 0, cells := 0, slots := 0, locals := 0 }
set_option maxRecDepth 100000 in
theorem tX8_toLook_ok : ∀ q ∈ tX8_toLook, decode cX8_toLook q.1 = .ok q.2 ∧ pm_tok q.1 q.2.1 q.2.2 = true := by decide +kernel
set_option maxRecDepth 100000 in
theorem fX8_toLook_ok : ∀ q ∈ fX8_toLook, pm_Fok wsX8_toLook yX8_toLook.cls q.1 q.2.1 q.2.2 := List.forall_mem_cons.mpr ⟨⟨(RX8, TX8, 61), rfl, by decide, by decide +kernel, fun w h => List.mem_cons_of_mem _ (List.mem_append_right _ h)⟩, List.forall_mem_cons.mpr ⟨⟨(RX8, TX8, 61), rfl, by decide, by decide +kernel, fun w h => List.mem_cons_of_mem _ (List.mem_append_right _ h)⟩, List.forall_mem_cons.mpr ⟨⟨(RX8, TX8, 61), rfl, by decide, by decide +kernel, fun w h => List.mem_cons_of_mem _ (List.mem_append_right _ h)⟩, List.forall_mem_cons.mpr ⟨⟨(RX8, TX8, 61), rfl, by decide, by decide +kernel, fun w h => List.mem_cons_of_mem _ (List.mem_append_right _ h)⟩, fun _ h => absurd h List.not_mem_nil⟩⟩⟩⟩
set_option maxRecDepth 100000 in
theorem qX8_toLook_ok : ∀ q ∈ qX8_toLook, pm_Kok wsX8_toLook yX8_toLook.cls q.1 q.2 := fun _ h => absurd h List.not_mem_nil
set_option maxRecDepth 100000 in
theorem conX8_toLook (l : Launch) : pm_Con l yX8_toLook wsX8_toLook mX8_toLook shM 44 kX8_toLook := pm_met_con (cc := cX8_toLook) (by decide +kernel) rfl shM_N tX8_toLook_ok fX8_toLook_ok qX8_toLook_ok (fun _ h => absurd h List.not_mem_nil)

def tX8_ends : List (Nat × (Instr × Nat)) := [(0, (.iconst 0, 1)), (1, (.istore_n 3, 1)), (2, (.iconst 0, 1)), (3, (.istore 4, 2)), (5, (.iload 4, 2)), (7, (.bipush 32, 2)), (9, (.if_icmp .ge 119, 3)), (12, (.bipush 32, 2)), (14, (.iload_n 2, 1)), (15, (.imul, 1)), (16, (.iload 4, 2)), (18, (.iadd, 1)), (19, (.istore 5, 2)), (21, (.aload_n 0, 1)), (22, (.getfield 39, 3)), (25, (.iload 5, 2)), (27, (.baload, 1)), (28, (.ifCond .eq 78, 3)), (31, (.aload_n 0, 1)), (32, (.getfield 35, 3)), (35, (.iload_n 2, 1)), (36, (.baload, 1)), (37, (.ifCond .ne 69, 3)), (40, (.iload_n 3, 1)), (41, (.ifCond .ne 13, 3)), (44, (.aload_n 0, 1)), (45, (.getfield 72, 3)), (48, (.iload 5, 2)), (50, (.baload, 1)), (51, (.ifCond .ne 7, 3)), (54, (.iconst 1, 1)), (55, (.goto 4, 3)), (58, (.iconst 0, 1)), (59, (.istore_n 3, 1)), (60, (.aload_n 0, 1)), (61, (.getfield 72, 3)), (64, (.iload 5, 2)), (66, (.iconst 1, 1)), (67, (.bastore, 1)), (68, (.aload_n 0, 1)), (69, (.getfield 75, 3)), (72, (.iload 5, 2)), (74, (.iconst 0, 1)), (75, (.bastore, 1)), (76, (.aload_n 0, 1)), (77, (.getfield 78, 3)), (80, (.iload 5, 2)), (82, (.aload_n 0, 1)), (83, (.getfield 42, 3)), (86, (.iload 5, 2)), (88, (.laload, 1)), (89, (.lastore, 1)), (90, (.aload_n 0, 1)), (91, (.getfield 81, 3)), (94, (.iload 5, 2)), (96, (.aload_n 0, 1)), (97, (.getfield 87, 3)), (100, (.iload_n 2, 1)), (101, (.iaload, 1)), (102, (.iastore, 1)), (103, (.goto 19, 3)), (106, (.aload_n 0, 1)), (107, (.getfield 72, 3)), (110, (.iload 5, 2)), (112, (.iconst 0, 1)), (113, (.bastore, 1)), (114, (.aload_n 0, 1)), (115, (.getfield 75, 3)), (118, (.iload 5, 2)), (120, (.iconst 0, 1)), (121, (.bastore, 1)), (122, (.iinc 4 1, 3)), (125, (.goto (-120), 3)), (128, (.aload_n 0, 1)), (129, (.getfield 84, 3)), (132, (.iload_n 2, 1)), (133, (.iconst 2, 1)), (134, (.iastore, 1)), (135, (.aload_n 0, 1)), (136, (.getfield 145, 3)), (139, (.iconst 1, 1)), (140, (.isub, 1)), (141, (.istore 4, 2)), (143, (.iload 4, 2)), (145, (.ifCond .lt 61, 3)), (148, (.aload_n 0, 1)), (149, (.getfield 84, 3)), (152, (.iload 4, 2)), (154, (.iaload, 1)), (155, (.iconst 3, 1)), (156, (.if_icmp .ne 44, 3)), (159, (.aload_n 0, 1)), (160, (.getfield 90, 3)), (163, (.iload 4, 2)), (165, (.iaload, 1)), (166, (.iload_n 2, 1)), (167, (.if_icmp .ne 33, 3)), (170, (.aload_n 0, 1)), (171, (.getfield 84, 3)), (174, (.iload 4, 2)), (176, (.iconst 0, 1)), (177, (.iastore, 1)), (178, (.aload_n 0, 1)), (179, (.iload 4, 2)), (181, (.aload_n 0, 1)), (182, (.getfield 198, 3)), (185, (.if_icmp .ge 8, 3)), (188, (.iload 4, 2)), (190, (.goto 7, 3)), (193, (.aload_n 0, 1)), (194, (.getfield 198, 3)), (197, (.putfield 198, 3)), (200, (.iinc 4 (-1), 3)), (203, (.goto (-60), 3)), (206, (.aload_n 0, 1)), (207, (.getfield 201, 3)), (210, (.iload_n 2, 1)), (211, (.if_icmp .le 21, 3)), (214, (.iload_n 3, 1)), (215, (.ifCond .eq 11, 3)), (218, (.aload_n 0, 1)), (219, (.iload_n 2, 1)), (220, (.putfield 201, 3)), (223, (.goto 9, 3)), (226, (.aload_n 0, 1)), (227, (.iload_n 1, 1)), (228, (.iload_n 2, 1)), (229, (.invokevirtual 225, 3)), (232, (.return_, 1))]
def fX8_ends : List (Nat × (Nat × Nat)) := [(39, (7, 11)), (35, (7, 10)), (72, (7, 23)), (75, (7, 24)), (78, (7, 25)), (42, (7, 12)), (81, (7, 26)), (87, (7, 32)), (84, (7, 31)), (145, (7, 1)), (90, (7, 33)), (198, (7, 37)), (201, (7, 38))]
def qX8_ends : List (Nat × (Int32 ⊕ Int64)) := []
noncomputable def lX8_ends : List (Nat × (Nat × (Option Nat × pFN))) := [(225, (3, (some 7, kX8_toLook)))]
noncomputable def kX8_ends : pFN := pm_met shM (some 7) tX8_ends fX8_ends qX8_ends lX8_ends 6 0
def mX8_ends : Room := { frames := 1, cells := 0, slots := 0, locals := 22 }
set_option maxRecDepth 100000 in
theorem tX8_ends_ok : ∀ q ∈ tX8_ends, decode cX8_ends q.1 = .ok q.2 ∧ pm_tok q.1 q.2.1 q.2.2 = true := by decide +kernel
set_option maxRecDepth 100000 in
theorem fX8_ends_ok : ∀ q ∈ fX8_ends, pm_Fok wsX8_ends yX8_ends.cls q.1 q.2.1 q.2.2 := List.forall_mem_cons.mpr ⟨⟨(RX8, TX8, 61), rfl, by decide, by decide +kernel, fun w h => List.mem_cons_of_mem _ (List.mem_append_right _ h)⟩, List.forall_mem_cons.mpr ⟨⟨(RX8, TX8, 61), rfl, by decide, by decide +kernel, fun w h => List.mem_cons_of_mem _ (List.mem_append_right _ h)⟩, List.forall_mem_cons.mpr ⟨⟨(RX8, TX8, 61), rfl, by decide, by decide +kernel, fun w h => List.mem_cons_of_mem _ (List.mem_append_right _ h)⟩, List.forall_mem_cons.mpr ⟨⟨(RX8, TX8, 61), rfl, by decide, by decide +kernel, fun w h => List.mem_cons_of_mem _ (List.mem_append_right _ h)⟩, List.forall_mem_cons.mpr ⟨⟨(RX8, TX8, 61), rfl, by decide, by decide +kernel, fun w h => List.mem_cons_of_mem _ (List.mem_append_right _ h)⟩, List.forall_mem_cons.mpr ⟨⟨(RX8, TX8, 61), rfl, by decide, by decide +kernel, fun w h => List.mem_cons_of_mem _ (List.mem_append_right _ h)⟩, List.forall_mem_cons.mpr ⟨⟨(RX8, TX8, 61), rfl, by decide, by decide +kernel, fun w h => List.mem_cons_of_mem _ (List.mem_append_right _ h)⟩, List.forall_mem_cons.mpr ⟨⟨(RX8, TX8, 61), rfl, by decide, by decide +kernel, fun w h => List.mem_cons_of_mem _ (List.mem_append_right _ h)⟩, List.forall_mem_cons.mpr ⟨⟨(RX8, TX8, 61), rfl, by decide, by decide +kernel, fun w h => List.mem_cons_of_mem _ (List.mem_append_right _ h)⟩, List.forall_mem_cons.mpr ⟨⟨(RX8, TX8, 61), rfl, by decide, by decide +kernel, fun w h => List.mem_cons_of_mem _ (List.mem_append_right _ h)⟩, List.forall_mem_cons.mpr ⟨⟨(RX8, TX8, 61), rfl, by decide, by decide +kernel, fun w h => List.mem_cons_of_mem _ (List.mem_append_right _ h)⟩, List.forall_mem_cons.mpr ⟨⟨(RX8, TX8, 61), rfl, by decide, by decide +kernel, fun w h => List.mem_cons_of_mem _ (List.mem_append_right _ h)⟩, List.forall_mem_cons.mpr ⟨⟨(RX8, TX8, 61), rfl, by decide, by decide +kernel, fun w h => List.mem_cons_of_mem _ (List.mem_append_right _ h)⟩, fun _ h => absurd h List.not_mem_nil⟩⟩⟩⟩⟩⟩⟩⟩⟩⟩⟩⟩⟩
set_option maxRecDepth 100000 in
theorem qX8_ends_ok : ∀ q ∈ qX8_ends, pm_Kok wsX8_ends yX8_ends.cls q.1 q.2 := fun _ h => absurd h List.not_mem_nil
set_option maxRecDepth 100000 in
theorem conX8_ends (l : Launch) : pm_Con l yX8_ends wsX8_ends mX8_ends shM 44 kX8_ends := pm_met_con (cc := cX8_ends) (by decide +kernel) rfl shM_N tX8_ends_ok fX8_ends_ok qX8_ends_ok (List.forall_mem_cons.mpr ⟨⟨yX8_toLook, wsX8_toLook, _, mX8_toLook, cX8_toLook, 3, pm_rt 0, (RX8, TX8, 61), conX8_toLook l, pm_met_recv, rfl, gX8_ends_X8_toLook, rfl, rfl, rfl, by decide +kernel, by decide⟩, fun _ h => absurd h List.not_mem_nil⟩)
end
section
def tX8_runStep : List (Nat × (Instr × Nat)) := [(0, (.aload_n 0, 1)), (1, (.getfield 96, 3)), (4, (.iload_n 1, 1)), (5, (.iaload, 1)), (6, (.istore_n 2, 1)), (7, (.aload_n 0, 1)), (8, (.iload_n 2, 1)), (9, (.invokevirtual 234, 3)), (12, (.ifCond .ne 52, 3)), (15, (.aload_n 0, 1)), (16, (.iload_n 2, 1)), (17, (.invokevirtual 237, 3)), (20, (.istore_n 3, 1)), (21, (.iload_n 3, 1)), (22, (.iconst (-1), 1)), (23, (.if_icmp .eq 41, 3)), (26, (.aload_n 0, 1)), (27, (.getfield 84, 3)), (30, (.iload_n 2, 1)), (31, (.iconst 3, 1)), (32, (.iastore, 1)), (33, (.aload_n 0, 1)), (34, (.getfield 90, 3)), (37, (.iload_n 2, 1)), (38, (.iload_n 3, 1)), (39, (.iastore, 1)), (40, (.aload_n 0, 1)), (41, (.getfield 93, 3)), (44, (.iload_n 1, 1)), (45, (.iconst 0, 1)), (46, (.iastore, 1)), (47, (.aload_n 0, 1)), (48, (.dup, 1)), (49, (.getfield 195, 3)), (52, (.iconst 1, 1)), (53, (.iadd, 1)), (54, (.putfield 195, 3)), (57, (.aload_n 0, 1)), (58, (.iload_n 2, 1)), (59, (.iload_n 3, 1)), (60, (.invokevirtual 241, 3)), (63, (.return_, 1)), (64, (.aload_n 0, 1)), (65, (.iload_n 2, 1)), (66, (.invokevirtual 234, 3)), (69, (.ifCond .eq 16, 3)), (72, (.aload_n 0, 1)), (73, (.getfield 93, 3)), (76, (.iload_n 1, 1)), (77, (.iconst 0, 1)), (78, (.iastore, 1)), (79, (.aload_n 0, 1)), (80, (.iload_n 1, 1)), (81, (.iload_n 2, 1)), (82, (.invokevirtual 244, 3)), (85, (.return_, 1))]
def fX8_runStep : List (Nat × (Nat × Nat)) := [(96, (7, 35)), (84, (7, 31)), (90, (7, 33)), (93, (7, 34)), (195, (7, 44))]
def qX8_runStep : List (Nat × (Int32 ⊕ Int64)) := []
noncomputable def lX8_runStep : List (Nat × (Nat × (Option Nat × pFN))) := [(234, (2, (some 7, kX8_isOver))), (237, (2, (some 7, kX8_doAct))), (241, (3, (some 7, kX8_conflict0))), (244, (3, (some 7, kX8_ends)))]
noncomputable def kX8_runStep : pFN := pm_met shM (some 7) tX8_runStep fX8_runStep qX8_runStep lX8_runStep 4 0
def mX8_runStep : Room := { frames := 2, cells := 0, slots := 0, locals := 51 }
set_option maxRecDepth 100000 in
theorem tX8_runStep_ok : ∀ q ∈ tX8_runStep, decode cX8_runStep q.1 = .ok q.2 ∧ pm_tok q.1 q.2.1 q.2.2 = true := by decide +kernel
set_option maxRecDepth 100000 in
theorem fX8_runStep_ok : ∀ q ∈ fX8_runStep, pm_Fok wsX8_runStep yX8_runStep.cls q.1 q.2.1 q.2.2 := List.forall_mem_cons.mpr ⟨⟨(RX8, TX8, 61), rfl, by decide, by decide +kernel, fun w h => List.mem_cons_of_mem _ (List.mem_append_right _ h)⟩, List.forall_mem_cons.mpr ⟨⟨(RX8, TX8, 61), rfl, by decide, by decide +kernel, fun w h => List.mem_cons_of_mem _ (List.mem_append_right _ h)⟩, List.forall_mem_cons.mpr ⟨⟨(RX8, TX8, 61), rfl, by decide, by decide +kernel, fun w h => List.mem_cons_of_mem _ (List.mem_append_right _ h)⟩, List.forall_mem_cons.mpr ⟨⟨(RX8, TX8, 61), rfl, by decide, by decide +kernel, fun w h => List.mem_cons_of_mem _ (List.mem_append_right _ h)⟩, List.forall_mem_cons.mpr ⟨⟨(RX8, TX8, 61), rfl, by decide, by decide +kernel, fun w h => List.mem_cons_of_mem _ (List.mem_append_right _ h)⟩, fun _ h => absurd h List.not_mem_nil⟩⟩⟩⟩⟩
set_option maxRecDepth 100000 in
theorem qX8_runStep_ok : ∀ q ∈ qX8_runStep, pm_Kok wsX8_runStep yX8_runStep.cls q.1 q.2 := fun _ h => absurd h List.not_mem_nil
set_option maxRecDepth 100000 in
theorem conX8_runStep (l : Launch) : pm_Con l yX8_runStep wsX8_runStep mX8_runStep shM 44 kX8_runStep := pm_met_con (cc := cX8_runStep) (by decide +kernel) rfl shM_N tX8_runStep_ok fX8_runStep_ok qX8_runStep_ok (List.forall_mem_cons.mpr ⟨⟨yX8_isOver, wsX8_isOver, _, mX8_isOver, cX8_isOver, 2, pm_rt 2, (RX8, TX8, 61), conX8_isOver l, pm_met_recv, rfl, gX8_runStep_X8_isOver, rfl, rfl, rfl, by decide +kernel, by decide⟩, List.forall_mem_cons.mpr ⟨⟨yX8_doAct, wsX8_doAct, _, mX8_doAct, cX8_doAct, 8, pm_rt 1, (RX8, TX8, 61), conX8_doAct l, pm_met_recv, rfl, gX8_runStep_X8_doAct, rfl, rfl, rfl, by decide +kernel, by decide⟩, List.forall_mem_cons.mpr ⟨⟨yX8_conflict0, wsX8_conflict0, _, mX8_conflict0, cX8_conflict0, 3, pm_rt 0, (RX8, TX8, 61), conX8_conflict0 l, pm_met_recv, rfl, gX8_runStep_X8_conflict0, rfl, rfl, rfl, by decide +kernel, by decide⟩, List.forall_mem_cons.mpr ⟨⟨yX8_ends, wsX8_ends, _, mX8_ends, cX8_ends, 6, pm_rt 0, (RX8, TX8, 61), conX8_ends l, pm_met_recv, rfl, gX8_runStep_X8_ends, rfl, rfl, rfl, by decide +kernel, by decide⟩, fun _ h => absurd h List.not_mem_nil⟩⟩⟩⟩)

def tX8_toRun : List (Nat × (Instr × Nat)) := [(0, (.aload_n 0, 1)), (1, (.getfield 84, 3)), (4, (.iload_n 2, 1)), (5, (.iconst 1, 1)), (6, (.iastore, 1)), (7, (.aload_n 0, 1)), (8, (.getfield 93, 3)), (11, (.iload_n 1, 1)), (12, (.iconst 1, 1)), (13, (.iastore, 1)), (14, (.aload_n 0, 1)), (15, (.getfield 96, 3)), (18, (.iload_n 1, 1)), (19, (.iload_n 2, 1)), (20, (.iastore, 1)), (21, (.aload_n 0, 1)), (22, (.iload_n 2, 1)), (23, (.invokevirtual 231, 3)), (26, (.return_, 1))]
def fX8_toRun : List (Nat × (Nat × Nat)) := [(84, (7, 31)), (93, (7, 34)), (96, (7, 35))]
def qX8_toRun : List (Nat × (Int32 ⊕ Int64)) := []
noncomputable def lX8_toRun : List (Nat × (Nat × (Option Nat × pFN))) := [(231, (2, (some 7, kX8_begin)))]
noncomputable def kX8_toRun : pFN := pm_met shM (some 7) tX8_toRun fX8_toRun qX8_toRun lX8_toRun 3 0
def mX8_toRun : Room := { frames := 1, cells := 0, slots := 0, locals := 22 }
set_option maxRecDepth 100000 in
theorem tX8_toRun_ok : ∀ q ∈ tX8_toRun, decode cX8_toRun q.1 = .ok q.2 ∧ pm_tok q.1 q.2.1 q.2.2 = true := by decide +kernel
set_option maxRecDepth 100000 in
theorem fX8_toRun_ok : ∀ q ∈ fX8_toRun, pm_Fok wsX8_toRun yX8_toRun.cls q.1 q.2.1 q.2.2 := List.forall_mem_cons.mpr ⟨⟨(RX8, TX8, 61), rfl, by decide, by decide +kernel, fun w h => List.mem_cons_of_mem _ (List.mem_append_right _ h)⟩, List.forall_mem_cons.mpr ⟨⟨(RX8, TX8, 61), rfl, by decide, by decide +kernel, fun w h => List.mem_cons_of_mem _ (List.mem_append_right _ h)⟩, List.forall_mem_cons.mpr ⟨⟨(RX8, TX8, 61), rfl, by decide, by decide +kernel, fun w h => List.mem_cons_of_mem _ (List.mem_append_right _ h)⟩, fun _ h => absurd h List.not_mem_nil⟩⟩⟩
set_option maxRecDepth 100000 in
theorem qX8_toRun_ok : ∀ q ∈ qX8_toRun, pm_Kok wsX8_toRun yX8_toRun.cls q.1 q.2 := fun _ h => absurd h List.not_mem_nil
set_option maxRecDepth 100000 in
theorem conX8_toRun (l : Launch) : pm_Con l yX8_toRun wsX8_toRun mX8_toRun shM 44 kX8_toRun := pm_met_con (cc := cX8_toRun) (by decide +kernel) rfl shM_N tX8_toRun_ok fX8_toRun_ok qX8_toRun_ok (List.forall_mem_cons.mpr ⟨⟨yX8_begin, wsX8_begin, _, mX8_begin, cX8_begin, 3, pm_rt 0, (RX8, TX8, 61), conX8_begin l, pm_met_recv, rfl, gX8_toRun_X8_begin, rfl, rfl, rfl, by decide +kernel, by decide⟩, fun _ h => absurd h List.not_mem_nil⟩)

def tX8_lookStep : List (Nat × (Instr × Nat)) := [(0, (.aload_n 0, 1)), (1, (.getfield 96, 3)), (4, (.iload_n 1, 1)), (5, (.iaload, 1)), (6, (.istore_n 2, 1)), (7, (.aload_n 0, 1)), (8, (.getfield 93, 3)), (11, (.iload_n 1, 1)), (12, (.iconst 0, 1)), (13, (.iastore, 1)), (14, (.aload_n 0, 1)), (15, (.dup, 1)), (16, (.getfield 189, 3)), (19, (.iconst 1, 1)), (20, (.iadd, 1)), (21, (.putfield 189, 3)), (24, (.aload_n 0, 1)), (25, (.getfield 84, 3)), (28, (.iload_n 2, 1)), (29, (.iaload, 1)), (30, (.iconst 2, 1)), (31, (.if_icmp .ne 18, 3)), (34, (.aload_n 0, 1)), (35, (.getfield 87, 3)), (38, (.iload_n 2, 1)), (39, (.iaload, 1)), (40, (.aload_n 0, 1)), (41, (.getfield 99, 3)), (44, (.iload_n 1, 1)), (45, (.iaload, 1)), (46, (.if_icmp .eq 4, 3)), (49, (.return_, 1)), (50, (.iconst 0, 1)), (51, (.istore_n 3, 1)), (52, (.iconst 0, 1)), (53, (.istore 4, 2)), (55, (.iload 4, 2)), (57, (.aload_n 0, 1)), (58, (.getfield 45, 3)), (61, (.iload_n 2, 1)), (62, (.iaload, 1)), (63, (.if_icmp .ge 89, 3)), (66, (.iload_n 3, 1)), (67, (.ifCond .ne 85, 3)), (70, (.aload_n 0, 1)), (71, (.iload_n 2, 1)), (72, (.aload_n 0, 1)), (73, (.getfield 48, 3)), (76, (.bipush 32, 2)), (78, (.iload_n 2, 1)), (79, (.imul, 1)), (80, (.iload 4, 2)), (82, (.iadd, 1)), (83, (.iaload, 1)), (84, (.invokevirtual 170, 3)), (87, (.aload_n 0, 1)), (88, (.getfield 156, 3)), (91, (.ifCond .ne 49, 3)), (94, (.aload_n 0, 1)), (95, (.getfield 150, 3)), (98, (.aload_n 0, 1)), (99, (.getfield 51, 3)), (102, (.bipush 32, 2)), (104, (.iload_n 2, 1)), (105, (.imul, 1)), (106, (.iload 4, 2)), (108, (.iadd, 1)), (109, (.iaload, 1)), (110, (.if_icmp .ne 30, 3)), (113, (.aload_n 0, 1)), (114, (.getfield 150, 3)), (117, (.iconst (-1), 1)), (118, (.if_icmp .eq 26, 3)), (121, (.aload_n 0, 1)), (122, (.getfield 153, 3)), (125, (.aload_n 0, 1)), (126, (.getfield 54, 3)), (129, (.bipush 32, 2)), (131, (.iload_n 2, 1)), (132, (.imul, 1)), (133, (.iload 4, 2)), (135, (.iadd, 1)), (136, (.iaload, 1)), (137, (.if_icmp .eq 7, 3)), (140, (.iconst 1, 1)), (141, (.goto 4, 3)), (144, (.iconst 0, 1)), (145, (.istore_n 3, 1)), (146, (.iinc 4 1, 3)), (149, (.goto (-94), 3)), (152, (.iload_n 3, 1)), (153, (.ifCond .ne 4, 3)), (156, (.return_, 1)), (157, (.aload_n 0, 1)), (158, (.iload_n 2, 1)), (159, (.aload_n 0, 1)), (160, (.getfield 150, 3)), (163, (.invokevirtual 241, 3)), (166, (.aload_n 0, 1)), (167, (.dup, 1)), (168, (.getfield 192, 3)), (171, (.iconst 1, 1)), (172, (.iadd, 1)), (173, (.putfield 192, 3)), (176, (.iconst 0, 1)), (177, (.istore 4, 2)), (179, (.iload 4, 2)), (181, (.bipush 32, 2)), (183, (.if_icmp .ge 33, 3)), (186, (.aload_n 0, 1)), (187, (.getfield 75, 3)), (190, (.bipush 32, 2)), (192, (.iload_n 2, 1)), (193, (.imul, 1)), (194, (.iload 4, 2)), (196, (.iadd, 1)), (197, (.aload_n 0, 1)), (198, (.getfield 72, 3)), (201, (.bipush 32, 2)), (203, (.iload_n 2, 1)), (204, (.imul, 1)), (205, (.iload 4, 2)), (207, (.iadd, 1)), (208, (.baload, 1)), (209, (.bastore, 1)), (210, (.iinc 4 1, 3)), (213, (.goto (-34), 3)), (216, (.aload_n 0, 1)), (217, (.getfield 87, 3)), (220, (.iload_n 2, 1)), (221, (.dup2, 1)), (222, (.iaload, 1)), (223, (.iconst 1, 1)), (224, (.iadd, 1)), (225, (.iastore, 1)), (226, (.aload_n 0, 1)), (227, (.getfield 84, 3)), (230, (.iload_n 2, 1)), (231, (.iconst 0, 1)), (232, (.iastore, 1)), (233, (.aload_n 0, 1)), (234, (.getfield 87, 3)), (237, (.iload_n 2, 1)), (238, (.iaload, 1)), (239, (.aload_n 0, 1)), (240, (.getfield 141, 3)), (243, (.if_icmp .lt 9, 3)), (246, (.aload_n 0, 1)), (247, (.iconst 1, 1)), (248, (.putfield 186, 3)), (251, (.return_, 1)), (252, (.aload_n 0, 1)), (253, (.iload_n 2, 1)), (254, (.iconst 1, 1)), (255, (.iadd, 1)), (256, (.aload_n 0, 1)), (257, (.getfield 201, 3)), (260, (.if_icmp .ge 9, 3)), (263, (.iload_n 2, 1)), (264, (.iconst 1, 1)), (265, (.iadd, 1)), (266, (.goto 7, 3)), (269, (.aload_n 0, 1)), (270, (.getfield 201, 3)), (273, (.putfield 201, 3)), (276, (.aload_n 0, 1)), (277, (.getfield 198, 3)), (280, (.iload_n 2, 1)), (281, (.if_icmp .le 9, 3)), (284, (.aload_n 0, 1)), (285, (.iload_n 1, 1)), (286, (.iload_n 2, 1)), (287, (.invokevirtual 228, 3)), (290, (.return_, 1))]
def fX8_lookStep : List (Nat × (Nat × Nat)) := [(96, (7, 35)), (93, (7, 34)), (189, (7, 42)), (84, (7, 31)), (87, (7, 32)), (99, (7, 36)), (45, (7, 13)), (48, (7, 14)), (156, (7, 29)), (150, (7, 27)), (51, (7, 15)), (153, (7, 28)), (54, (7, 16)), (192, (7, 43)), (75, (7, 24)), (72, (7, 23)), (141, (7, 2)), (186, (7, 41)), (201, (7, 38)), (198, (7, 37))]
def qX8_lookStep : List (Nat × (Int32 ⊕ Int64)) := []
noncomputable def lX8_lookStep : List (Nat × (Nat × (Option Nat × pFN))) := [(170, (3, (some 7, kX8_see))), (241, (3, (some 7, kX8_conflict0))), (228, (3, (some 7, kX8_toRun)))]
noncomputable def kX8_lookStep : pFN := pm_met shM (some 7) tX8_lookStep fX8_lookStep qX8_lookStep lX8_lookStep 5 0
def mX8_lookStep : Room := { frames := 2, cells := 0, slots := 0, locals := 44 }
set_option maxRecDepth 100000 in
theorem tX8_lookStep_ok : ∀ q ∈ tX8_lookStep, decode cX8_lookStep q.1 = .ok q.2 ∧ pm_tok q.1 q.2.1 q.2.2 = true := by decide +kernel
set_option maxRecDepth 100000 in
theorem fX8_lookStep_ok : ∀ q ∈ fX8_lookStep, pm_Fok wsX8_lookStep yX8_lookStep.cls q.1 q.2.1 q.2.2 := List.forall_mem_cons.mpr ⟨⟨(RX8, TX8, 61), rfl, by decide, by decide +kernel, fun w h => List.mem_cons_of_mem _ (List.mem_append_right _ h)⟩, List.forall_mem_cons.mpr ⟨⟨(RX8, TX8, 61), rfl, by decide, by decide +kernel, fun w h => List.mem_cons_of_mem _ (List.mem_append_right _ h)⟩, List.forall_mem_cons.mpr ⟨⟨(RX8, TX8, 61), rfl, by decide, by decide +kernel, fun w h => List.mem_cons_of_mem _ (List.mem_append_right _ h)⟩, List.forall_mem_cons.mpr ⟨⟨(RX8, TX8, 61), rfl, by decide, by decide +kernel, fun w h => List.mem_cons_of_mem _ (List.mem_append_right _ h)⟩, List.forall_mem_cons.mpr ⟨⟨(RX8, TX8, 61), rfl, by decide, by decide +kernel, fun w h => List.mem_cons_of_mem _ (List.mem_append_right _ h)⟩, List.forall_mem_cons.mpr ⟨⟨(RX8, TX8, 61), rfl, by decide, by decide +kernel, fun w h => List.mem_cons_of_mem _ (List.mem_append_right _ h)⟩, List.forall_mem_cons.mpr ⟨⟨(RX8, TX8, 61), rfl, by decide, by decide +kernel, fun w h => List.mem_cons_of_mem _ (List.mem_append_right _ h)⟩, List.forall_mem_cons.mpr ⟨⟨(RX8, TX8, 61), rfl, by decide, by decide +kernel, fun w h => List.mem_cons_of_mem _ (List.mem_append_right _ h)⟩, List.forall_mem_cons.mpr ⟨⟨(RX8, TX8, 61), rfl, by decide, by decide +kernel, fun w h => List.mem_cons_of_mem _ (List.mem_append_right _ h)⟩, List.forall_mem_cons.mpr ⟨⟨(RX8, TX8, 61), rfl, by decide, by decide +kernel, fun w h => List.mem_cons_of_mem _ (List.mem_append_right _ h)⟩, List.forall_mem_cons.mpr ⟨⟨(RX8, TX8, 61), rfl, by decide, by decide +kernel, fun w h => List.mem_cons_of_mem _ (List.mem_append_right _ h)⟩, List.forall_mem_cons.mpr ⟨⟨(RX8, TX8, 61), rfl, by decide, by decide +kernel, fun w h => List.mem_cons_of_mem _ (List.mem_append_right _ h)⟩, List.forall_mem_cons.mpr ⟨⟨(RX8, TX8, 61), rfl, by decide, by decide +kernel, fun w h => List.mem_cons_of_mem _ (List.mem_append_right _ h)⟩, List.forall_mem_cons.mpr ⟨⟨(RX8, TX8, 61), rfl, by decide, by decide +kernel, fun w h => List.mem_cons_of_mem _ (List.mem_append_right _ h)⟩, List.forall_mem_cons.mpr ⟨⟨(RX8, TX8, 61), rfl, by decide, by decide +kernel, fun w h => List.mem_cons_of_mem _ (List.mem_append_right _ h)⟩, List.forall_mem_cons.mpr ⟨⟨(RX8, TX8, 61), rfl, by decide, by decide +kernel, fun w h => List.mem_cons_of_mem _ (List.mem_append_right _ h)⟩, List.forall_mem_cons.mpr ⟨⟨(RX8, TX8, 61), rfl, by decide, by decide +kernel, fun w h => List.mem_cons_of_mem _ (List.mem_append_right _ h)⟩, List.forall_mem_cons.mpr ⟨⟨(RX8, TX8, 61), rfl, by decide, by decide +kernel, fun w h => List.mem_cons_of_mem _ (List.mem_append_right _ h)⟩, List.forall_mem_cons.mpr ⟨⟨(RX8, TX8, 61), rfl, by decide, by decide +kernel, fun w h => List.mem_cons_of_mem _ (List.mem_append_right _ h)⟩, List.forall_mem_cons.mpr ⟨⟨(RX8, TX8, 61), rfl, by decide, by decide +kernel, fun w h => List.mem_cons_of_mem _ (List.mem_append_right _ h)⟩, fun _ h => absurd h List.not_mem_nil⟩⟩⟩⟩⟩⟩⟩⟩⟩⟩⟩⟩⟩⟩⟩⟩⟩⟩⟩⟩
set_option maxRecDepth 100000 in
theorem qX8_lookStep_ok : ∀ q ∈ qX8_lookStep, pm_Kok wsX8_lookStep yX8_lookStep.cls q.1 q.2 := fun _ h => absurd h List.not_mem_nil
set_option maxRecDepth 100000 in
theorem conX8_lookStep (l : Launch) : pm_Con l yX8_lookStep wsX8_lookStep mX8_lookStep shM 44 kX8_lookStep := pm_met_con (cc := cX8_lookStep) (by decide +kernel) rfl shM_N tX8_lookStep_ok fX8_lookStep_ok qX8_lookStep_ok (List.forall_mem_cons.mpr ⟨⟨yX8_see, wsX8_see, _, mX8_see, cX8_see, 5, pm_rt 0, (RX8, TX8, 61), conX8_see l, pm_met_recv, rfl, gX8_lookStep_X8_see, rfl, rfl, rfl, by decide +kernel, by decide⟩, List.forall_mem_cons.mpr ⟨⟨yX8_conflict0, wsX8_conflict0, _, mX8_conflict0, cX8_conflict0, 3, pm_rt 0, (RX8, TX8, 61), conX8_conflict0 l, pm_met_recv, rfl, gX8_lookStep_X8_conflict0, rfl, rfl, rfl, by decide +kernel, by decide⟩, List.forall_mem_cons.mpr ⟨⟨yX8_toRun, wsX8_toRun, _, mX8_toRun, cX8_toRun, 3, pm_rt 0, (RX8, TX8, 61), conX8_toRun l, pm_met_recv, rfl, gX8_lookStep_X8_toRun, rfl, rfl, rfl, by decide +kernel, by decide⟩, fun _ h => absurd h List.not_mem_nil⟩⟩⟩)

def tX8_step : List (Nat × (Instr × Nat)) := [(0, (.aload_n 0, 1)), (1, (.getfield 93, 3)), (4, (.iload_n 1, 1)), (5, (.iaload, 1)), (6, (.iconst 1, 1)), (7, (.if_icmp .ne 11, 3)), (10, (.aload_n 0, 1)), (11, (.iload_n 1, 1)), (12, (.invokevirtual 219, 3)), (15, (.goto 107, 3)), (18, (.aload_n 0, 1)), (19, (.getfield 93, 3)), (22, (.iload_n 1, 1)), (23, (.iaload, 1)), (24, (.iconst 2, 1)), (25, (.if_icmp .ne 11, 3)), (28, (.aload_n 0, 1)), (29, (.iload_n 1, 1)), (30, (.invokevirtual 222, 3)), (33, (.goto 89, 3)), (36, (.aload_n 0, 1)), (37, (.getfield 201, 3)), (40, (.aload_n 0, 1)), (41, (.getfield 198, 3)), (44, (.if_icmp .ge 37, 3)), (47, (.aload_n 0, 1)), (48, (.getfield 201, 3)), (51, (.istore_n 2, 1)), (52, (.aload_n 0, 1)), (53, (.dup, 1)), (54, (.getfield 201, 3)), (57, (.iconst 1, 1)), (58, (.iadd, 1)), (59, (.putfield 201, 3)), (62, (.aload_n 0, 1)), (63, (.getfield 84, 3)), (66, (.iload_n 2, 1)), (67, (.iaload, 1)), (68, (.iconst 2, 1)), (69, (.if_icmp .ne 9, 3)), (72, (.aload_n 0, 1)), (73, (.iload_n 1, 1)), (74, (.iload_n 2, 1)), (75, (.invokevirtual 225, 3)), (78, (.goto 44, 3)), (81, (.aload_n 0, 1)), (82, (.getfield 198, 3)), (85, (.aload_n 0, 1)), (86, (.getfield 145, 3)), (89, (.if_icmp .ge 33, 3)), (92, (.aload_n 0, 1)), (93, (.getfield 198, 3)), (96, (.istore_n 2, 1)), (97, (.aload_n 0, 1)), (98, (.dup, 1)), (99, (.getfield 198, 3)), (102, (.iconst 1, 1)), (103, (.iadd, 1)), (104, (.putfield 198, 3)), (107, (.aload_n 0, 1)), (108, (.getfield 84, 3)), (111, (.iload_n 2, 1)), (112, (.iaload, 1)), (113, (.ifCond .ne 9, 3)), (116, (.aload_n 0, 1)), (117, (.iload_n 1, 1)), (118, (.iload_n 2, 1)), (119, (.invokevirtual 228, 3)), (122, (.return_, 1))]
def fX8_step : List (Nat × (Nat × Nat)) := [(93, (7, 34)), (201, (7, 38)), (198, (7, 37)), (84, (7, 31)), (145, (7, 1))]
def qX8_step : List (Nat × (Int32 ⊕ Int64)) := []
noncomputable def lX8_step : List (Nat × (Nat × (Option Nat × pFN))) := [(219, (2, (some 7, kX8_runStep))), (222, (2, (some 7, kX8_lookStep))), (225, (3, (some 7, kX8_toLook))), (228, (3, (some 7, kX8_toRun)))]
noncomputable def kX8_step : pFN := pm_met shM (some 7) tX8_step fX8_step qX8_step lX8_step 3 0
def mX8_step : Room := { frames := 3, cells := 0, slots := 0, locals := 74 }
set_option maxRecDepth 100000 in
theorem tX8_step_ok : ∀ q ∈ tX8_step, decode cX8_step q.1 = .ok q.2 ∧ pm_tok q.1 q.2.1 q.2.2 = true := by decide +kernel
set_option maxRecDepth 100000 in
theorem fX8_step_ok : ∀ q ∈ fX8_step, pm_Fok wsX8_step yX8_step.cls q.1 q.2.1 q.2.2 := List.forall_mem_cons.mpr ⟨⟨(RX8, TX8, 61), rfl, by decide, by decide +kernel, fun w h => List.mem_cons_of_mem _ (List.mem_append_right _ h)⟩, List.forall_mem_cons.mpr ⟨⟨(RX8, TX8, 61), rfl, by decide, by decide +kernel, fun w h => List.mem_cons_of_mem _ (List.mem_append_right _ h)⟩, List.forall_mem_cons.mpr ⟨⟨(RX8, TX8, 61), rfl, by decide, by decide +kernel, fun w h => List.mem_cons_of_mem _ (List.mem_append_right _ h)⟩, List.forall_mem_cons.mpr ⟨⟨(RX8, TX8, 61), rfl, by decide, by decide +kernel, fun w h => List.mem_cons_of_mem _ (List.mem_append_right _ h)⟩, List.forall_mem_cons.mpr ⟨⟨(RX8, TX8, 61), rfl, by decide, by decide +kernel, fun w h => List.mem_cons_of_mem _ (List.mem_append_right _ h)⟩, fun _ h => absurd h List.not_mem_nil⟩⟩⟩⟩⟩
set_option maxRecDepth 100000 in
theorem qX8_step_ok : ∀ q ∈ qX8_step, pm_Kok wsX8_step yX8_step.cls q.1 q.2 := fun _ h => absurd h List.not_mem_nil
set_option maxRecDepth 100000 in
theorem conX8_step (l : Launch) : pm_Con l yX8_step wsX8_step mX8_step shM 44 kX8_step := pm_met_con (cc := cX8_step) (by decide +kernel) rfl shM_N tX8_step_ok fX8_step_ok qX8_step_ok (List.forall_mem_cons.mpr ⟨⟨yX8_runStep, wsX8_runStep, _, mX8_runStep, cX8_runStep, 4, pm_rt 0, (RX8, TX8, 61), conX8_runStep l, pm_met_recv, rfl, gX8_step_X8_runStep, rfl, rfl, rfl, by decide +kernel, by decide⟩, List.forall_mem_cons.mpr ⟨⟨yX8_lookStep, wsX8_lookStep, _, mX8_lookStep, cX8_lookStep, 5, pm_rt 0, (RX8, TX8, 61), conX8_lookStep l, pm_met_recv, rfl, gX8_step_X8_lookStep, rfl, rfl, rfl, by decide +kernel, by decide⟩, List.forall_mem_cons.mpr ⟨⟨yX8_toLook, wsX8_toLook, _, mX8_toLook, cX8_toLook, 3, pm_rt 0, (RX8, TX8, 61), conX8_toLook l, pm_met_recv, rfl, gX8_step_X8_toLook, rfl, rfl, rfl, by decide +kernel, by decide⟩, List.forall_mem_cons.mpr ⟨⟨yX8_toRun, wsX8_toRun, _, mX8_toRun, cX8_toRun, 3, pm_rt 0, (RX8, TX8, 61), conX8_toRun l, pm_met_recv, rfl, gX8_step_X8_toRun, rfl, rfl, rfl, by decide +kernel, by decide⟩, fun _ h => absurd h List.not_mem_nil⟩⟩⟩⟩)

def tX8_allInOrder : List (Nat × (Instr × Nat)) := [(0, (.iconst 0, 1)), (1, (.istore_n 1, 1)), (2, (.iload_n 1, 1)), (3, (.sipush 512, 3)), (6, (.if_icmp .ge 23, 3)), (9, (.aload_n 0, 1)), (10, (.getfield 72, 3)), (13, (.iload_n 1, 1)), (14, (.iconst 0, 1)), (15, (.bastore, 1)), (16, (.aload_n 0, 1)), (17, (.getfield 75, 3)), (20, (.iload_n 1, 1)), (21, (.iconst 0, 1)), (22, (.bastore, 1)), (23, (.iinc 1 1, 3)), (26, (.goto (-24), 3)), (29, (.iconst 0, 1)), (30, (.istore_n 1, 1)), (31, (.iload_n 1, 1)), (32, (.aload_n 0, 1)), (33, (.getfield 145, 3)), (36, (.if_icmp .ge 100, 3)), (39, (.aload_n 0, 1)), (40, (.iload_n 1, 1)), (41, (.invokevirtual 231, 3)), (44, (.aload_n 0, 1)), (45, (.iload_n 1, 1)), (46, (.invokevirtual 234, 3)), (49, (.ifCond .ne 12, 3)), (52, (.aload_n 0, 1)), (53, (.iload_n 1, 1)), (54, (.invokevirtual 237, 3)), (57, (.istore_n 2, 1)), (58, (.goto (-14), 3)), (61, (.iconst 0, 1)), (62, (.istore_n 2, 1)), (63, (.iload_n 2, 1)), (64, (.bipush 32, 2)), (66, (.if_icmp .ge 64, 3)), (69, (.bipush 32, 2)), (71, (.iload_n 1, 1)), (72, (.imul, 1)), (73, (.iload_n 2, 1)), (74, (.iadd, 1)), (75, (.istore_n 3, 1)), (76, (.aload_n 0, 1)), (77, (.getfield 72, 3)), (80, (.iload_n 3, 1)), (81, (.aload_n 0, 1)), (82, (.getfield 39, 3)), (85, (.iload_n 3, 1)), (86, (.baload, 1)), (87, (.ifCond .eq 16, 3)), (90, (.aload_n 0, 1)), (91, (.getfield 35, 3)), (94, (.iload_n 1, 1)), (95, (.baload, 1)), (96, (.ifCond .ne 7, 3)), (99, (.iconst 1, 1)), (100, (.goto 4, 3)), (103, (.iconst 0, 1)), (104, (.bastore, 1)), (105, (.aload_n 0, 1)), (106, (.getfield 78, 3)), (109, (.iload_n 3, 1)), (110, (.aload_n 0, 1)), (111, (.getfield 42, 3)), (114, (.iload_n 3, 1)), (115, (.laload, 1)), (116, (.lastore, 1)), (117, (.aload_n 0, 1)), (118, (.getfield 81, 3)), (121, (.iload_n 3, 1)), (122, (.iconst 0, 1)), (123, (.iastore, 1)), (124, (.iinc 2 1, 3)), (127, (.goto (-64), 3)), (130, (.iinc 1 1, 3)), (133, (.goto (-102), 3)), (136, (.return_, 1))]
def fX8_allInOrder : List (Nat × (Nat × Nat)) := [(72, (7, 23)), (75, (7, 24)), (145, (7, 1)), (39, (7, 11)), (35, (7, 10)), (78, (7, 25)), (42, (7, 12)), (81, (7, 26))]
def qX8_allInOrder : List (Nat × (Int32 ⊕ Int64)) := []
noncomputable def lX8_allInOrder : List (Nat × (Nat × (Option Nat × pFN))) := [(231, (2, (some 7, kX8_begin))), (234, (2, (some 7, kX8_isOver))), (237, (2, (some 7, kX8_doAct)))]
noncomputable def kX8_allInOrder : pFN := pm_met shM (some 7) tX8_allInOrder fX8_allInOrder qX8_allInOrder lX8_allInOrder 4 0
def mX8_allInOrder : Room := { frames := 2, cells := 0, slots := 0, locals := 51 }
set_option maxRecDepth 100000 in
theorem tX8_allInOrder_ok : ∀ q ∈ tX8_allInOrder, decode cX8_allInOrder q.1 = .ok q.2 ∧ pm_tok q.1 q.2.1 q.2.2 = true := by decide +kernel
set_option maxRecDepth 100000 in
theorem fX8_allInOrder_ok : ∀ q ∈ fX8_allInOrder, pm_Fok wsX8_allInOrder yX8_allInOrder.cls q.1 q.2.1 q.2.2 := List.forall_mem_cons.mpr ⟨⟨(RX8, TX8, 61), rfl, by decide, by decide +kernel, fun w h => List.mem_cons_of_mem _ (List.mem_append_right _ h)⟩, List.forall_mem_cons.mpr ⟨⟨(RX8, TX8, 61), rfl, by decide, by decide +kernel, fun w h => List.mem_cons_of_mem _ (List.mem_append_right _ h)⟩, List.forall_mem_cons.mpr ⟨⟨(RX8, TX8, 61), rfl, by decide, by decide +kernel, fun w h => List.mem_cons_of_mem _ (List.mem_append_right _ h)⟩, List.forall_mem_cons.mpr ⟨⟨(RX8, TX8, 61), rfl, by decide, by decide +kernel, fun w h => List.mem_cons_of_mem _ (List.mem_append_right _ h)⟩, List.forall_mem_cons.mpr ⟨⟨(RX8, TX8, 61), rfl, by decide, by decide +kernel, fun w h => List.mem_cons_of_mem _ (List.mem_append_right _ h)⟩, List.forall_mem_cons.mpr ⟨⟨(RX8, TX8, 61), rfl, by decide, by decide +kernel, fun w h => List.mem_cons_of_mem _ (List.mem_append_right _ h)⟩, List.forall_mem_cons.mpr ⟨⟨(RX8, TX8, 61), rfl, by decide, by decide +kernel, fun w h => List.mem_cons_of_mem _ (List.mem_append_right _ h)⟩, List.forall_mem_cons.mpr ⟨⟨(RX8, TX8, 61), rfl, by decide, by decide +kernel, fun w h => List.mem_cons_of_mem _ (List.mem_append_right _ h)⟩, fun _ h => absurd h List.not_mem_nil⟩⟩⟩⟩⟩⟩⟩⟩
set_option maxRecDepth 100000 in
theorem qX8_allInOrder_ok : ∀ q ∈ qX8_allInOrder, pm_Kok wsX8_allInOrder yX8_allInOrder.cls q.1 q.2 := fun _ h => absurd h List.not_mem_nil
set_option maxRecDepth 100000 in
theorem conX8_allInOrder (l : Launch) : pm_Con l yX8_allInOrder wsX8_allInOrder mX8_allInOrder shM 44 kX8_allInOrder := pm_met_con (cc := cX8_allInOrder) (by decide +kernel) rfl shM_N tX8_allInOrder_ok fX8_allInOrder_ok qX8_allInOrder_ok (List.forall_mem_cons.mpr ⟨⟨yX8_begin, wsX8_begin, _, mX8_begin, cX8_begin, 3, pm_rt 0, (RX8, TX8, 61), conX8_begin l, pm_met_recv, rfl, gX8_allInOrder_X8_begin, rfl, rfl, rfl, by decide +kernel, by decide⟩, List.forall_mem_cons.mpr ⟨⟨yX8_isOver, wsX8_isOver, _, mX8_isOver, cX8_isOver, 2, pm_rt 2, (RX8, TX8, 61), conX8_isOver l, pm_met_recv, rfl, gX8_allInOrder_X8_isOver, rfl, rfl, rfl, by decide +kernel, by decide⟩, List.forall_mem_cons.mpr ⟨⟨yX8_doAct, wsX8_doAct, _, mX8_doAct, cX8_doAct, 8, pm_rt 1, (RX8, TX8, 61), conX8_doAct l, pm_met_recv, rfl, gX8_allInOrder_X8_doAct, rfl, rfl, rfl, by decide +kernel, by decide⟩, fun _ h => absurd h List.not_mem_nil⟩⟩⟩)

def tX8_touches : List (Nat × (Instr × Nat)) := [(0, (.aload_n 0, 1)), (1, (.getfield 39, 3)), (4, (.bipush 32, 2)), (6, (.iload_n 1, 1)), (7, (.imul, 1)), (8, (.iload_n 2, 1)), (9, (.iadd, 1)), (10, (.baload, 1)), (11, (.ifCond .eq 16, 3)), (14, (.aload_n 0, 1)), (15, (.getfield 35, 3)), (18, (.iload_n 1, 1)), (19, (.baload, 1)), (20, (.ifCond .ne 7, 3)), (23, (.iconst 1, 1)), (24, (.goto 4, 3)), (27, (.iconst 0, 1)), (28, (.istore_n 3, 1)), (29, (.iconst 0, 1)), (30, (.istore 4, 2)), (32, (.iload 4, 2)), (34, (.aload_n 0, 1)), (35, (.getfield 45, 3)), (38, (.iload_n 1, 1)), (39, (.iaload, 1)), (40, (.if_icmp .ge 35, 3)), (43, (.iload_n 3, 1)), (44, (.ifCond .ne 19, 3)), (47, (.aload_n 0, 1)), (48, (.getfield 48, 3)), (51, (.bipush 32, 2)), (53, (.iload_n 1, 1)), (54, (.imul, 1)), (55, (.iload 4, 2)), (57, (.iadd, 1)), (58, (.iaload, 1)), (59, (.iload_n 2, 1)), (60, (.if_icmp .ne 7, 3)), (63, (.iconst 1, 1)), (64, (.goto 4, 3)), (67, (.iconst 0, 1)), (68, (.istore_n 3, 1)), (69, (.iinc 4 1, 3)), (72, (.goto (-40), 3)), (75, (.iload_n 3, 1)), (76, (.ireturn, 1))]
def fX8_touches : List (Nat × (Nat × Nat)) := [(39, (7, 11)), (35, (7, 10)), (45, (7, 13)), (48, (7, 14))]
def qX8_touches : List (Nat × (Int32 ⊕ Int64)) := []
noncomputable def lX8_touches : List (Nat × (Nat × (Option Nat × pFN))) := []
noncomputable def kX8_touches : pFN := pm_met shM (some 7) tX8_touches fX8_touches qX8_touches lX8_touches 5 2
def mX8_touches : Room := { frames := 0, cells := 0, slots := 0, locals := 0 }
set_option maxRecDepth 100000 in
theorem tX8_touches_ok : ∀ q ∈ tX8_touches, decode cX8_touches q.1 = .ok q.2 ∧ pm_tok q.1 q.2.1 q.2.2 = true := by decide +kernel
set_option maxRecDepth 100000 in
theorem fX8_touches_ok : ∀ q ∈ fX8_touches, pm_Fok wsX8_touches yX8_touches.cls q.1 q.2.1 q.2.2 := List.forall_mem_cons.mpr ⟨⟨(RX8, TX8, 61), rfl, by decide, by decide +kernel, fun w h => List.mem_cons_of_mem _ (List.mem_append_right _ h)⟩, List.forall_mem_cons.mpr ⟨⟨(RX8, TX8, 61), rfl, by decide, by decide +kernel, fun w h => List.mem_cons_of_mem _ (List.mem_append_right _ h)⟩, List.forall_mem_cons.mpr ⟨⟨(RX8, TX8, 61), rfl, by decide, by decide +kernel, fun w h => List.mem_cons_of_mem _ (List.mem_append_right _ h)⟩, List.forall_mem_cons.mpr ⟨⟨(RX8, TX8, 61), rfl, by decide, by decide +kernel, fun w h => List.mem_cons_of_mem _ (List.mem_append_right _ h)⟩, fun _ h => absurd h List.not_mem_nil⟩⟩⟩⟩
set_option maxRecDepth 100000 in
theorem qX8_touches_ok : ∀ q ∈ qX8_touches, pm_Kok wsX8_touches yX8_touches.cls q.1 q.2 := fun _ h => absurd h List.not_mem_nil
set_option maxRecDepth 100000 in
theorem conX8_touches (l : Launch) : pm_Con l yX8_touches wsX8_touches mX8_touches shM 44 kX8_touches := pm_met_con (cc := cX8_touches) (by decide +kernel) rfl shM_N tX8_touches_ok fX8_touches_ok qX8_touches_ok (fun _ h => absurd h List.not_mem_nil)

def tX8_rootOf : List (Nat × (Instr × Nat)) := [(0, (.iload_n 1, 1)), (1, (.istore_n 2, 1)), (2, (.aload_n 0, 1)), (3, (.getfield 102, 3)), (6, (.iload_n 2, 1)), (7, (.iaload, 1)), (8, (.iload_n 2, 1)), (9, (.if_icmp .eq 13, 3)), (12, (.aload_n 0, 1)), (13, (.getfield 102, 3)), (16, (.iload_n 2, 1)), (17, (.iaload, 1)), (18, (.istore_n 2, 1)), (19, (.goto (-17), 3)), (22, (.iload_n 2, 1)), (23, (.ireturn, 1))]
def fX8_rootOf : List (Nat × (Nat × Nat)) := [(102, (7, 46))]
def qX8_rootOf : List (Nat × (Int32 ⊕ Int64)) := []
noncomputable def lX8_rootOf : List (Nat × (Nat × (Option Nat × pFN))) := []
noncomputable def kX8_rootOf : pFN := pm_met shM (some 7) tX8_rootOf fX8_rootOf qX8_rootOf lX8_rootOf 3 1
def mX8_rootOf : Room := { frames := 0, cells := 0, slots := 0, locals := 0 }
set_option maxRecDepth 100000 in
theorem tX8_rootOf_ok : ∀ q ∈ tX8_rootOf, decode cX8_rootOf q.1 = .ok q.2 ∧ pm_tok q.1 q.2.1 q.2.2 = true := by decide +kernel
set_option maxRecDepth 100000 in
theorem fX8_rootOf_ok : ∀ q ∈ fX8_rootOf, pm_Fok wsX8_rootOf yX8_rootOf.cls q.1 q.2.1 q.2.2 := List.forall_mem_cons.mpr ⟨⟨(RX8, TX8, 61), rfl, by decide, by decide +kernel, fun w h => List.mem_cons_of_mem _ (List.mem_append_right _ h)⟩, fun _ h => absurd h List.not_mem_nil⟩
set_option maxRecDepth 100000 in
theorem qX8_rootOf_ok : ∀ q ∈ qX8_rootOf, pm_Kok wsX8_rootOf yX8_rootOf.cls q.1 q.2 := fun _ h => absurd h List.not_mem_nil
set_option maxRecDepth 100000 in
theorem conX8_rootOf (l : Launch) : pm_Con l yX8_rootOf wsX8_rootOf mX8_rootOf shM 44 kX8_rootOf := pm_met_con (cc := cX8_rootOf) (by decide +kernel) rfl shM_N tX8_rootOf_ok fX8_rootOf_ok qX8_rootOf_ok (fun _ h => absurd h List.not_mem_nil)

def tX8_settle : List (Nat × (Instr × Nat)) := [(0, (.aload_n 0, 1)), (1, (.iconst 0, 1)), (2, (.putfield 247, 3)), (5, (.iconst 0, 1)), (6, (.istore_n 1, 1)), (7, (.iload_n 1, 1)), (8, (.aload_n 0, 1)), (9, (.getfield 180, 3)), (12, (.if_icmp .ge 230, 3)), (15, (.iconst 0, 1)), (16, (.istore_n 2, 1)), (17, (.iload_n 2, 1)), (18, (.bipush 32, 2)), (20, (.if_icmp .ge 40, 3)), (23, (.aload_n 0, 1)), (24, (.getfield 72, 3)), (27, (.bipush 32, 2)), (29, (.iload_n 1, 1)), (30, (.imul, 1)), (31, (.iload_n 2, 1)), (32, (.iadd, 1)), (33, (.baload, 1)), (34, (.ifCond .eq 20, 3)), (37, (.aload_n 0, 1)), (38, (.getfield 7, 3)), (41, (.iload_n 2, 1)), (42, (.aload_n 0, 1)), (43, (.getfield 78, 3)), (46, (.bipush 32, 2)), (48, (.iload_n 1, 1)), (49, (.imul, 1)), (50, (.iload_n 2, 1)), (51, (.iadd, 1)), (52, (.laload, 1)), (53, (.lastore, 1)), (54, (.iinc 2 1, 3)), (57, (.goto (-40), 3)), (60, (.iconst 0, 1)), (61, (.istore_n 2, 1)), (62, (.iload_n 2, 1)), (63, (.aload_n 0, 1)), (64, (.getfield 60, 3)), (67, (.iload_n 1, 1)), (68, (.iaload, 1)), (69, (.if_icmp .ge 58, 3)), (72, (.aload_n 0, 1)), (73, (.getfield 35, 3)), (76, (.iload_n 1, 1)), (77, (.baload, 1)), (78, (.ifCond .ne 49, 3)), (81, (.aload_n 0, 1)), (82, (.getfield 111, 3)), (85, (.aload_n 0, 1)), (86, (.getfield 247, 3)), (89, (.aload_n 0, 1)), (90, (.getfield 63, 3)), (93, (.bipush 12, 2)), (95, (.iload_n 1, 1)), (96, (.imul, 1)), (97, (.iload_n 2, 1)), (98, (.iadd, 1)), (99, (.laload, 1)), (100, (.lastore, 1)), (101, (.aload_n 0, 1)), (102, (.getfield 114, 3)), (105, (.aload_n 0, 1)), (106, (.getfield 247, 3)), (109, (.iload_n 1, 1)), (110, (.iastore, 1)), (111, (.aload_n 0, 1)), (112, (.dup, 1)), (113, (.getfield 247, 3)), (116, (.iconst 1, 1)), (117, (.iadd, 1)), (118, (.putfield 247, 3)), (121, (.iinc 2 1, 3)), (124, (.goto (-62), 3)), (127, (.iconst 0, 1)), (128, (.istore_n 2, 1)), (129, (.iconst 0, 1)), (130, (.istore_n 3, 1)), (131, (.iload_n 3, 1)), (132, (.bipush 32, 2)), (134, (.if_icmp .ge 40, 3)), (137, (.iload_n 2, 1)), (138, (.aload_n 0, 1)), (139, (.getfield 39, 3)), (142, (.bipush 32, 2)), (144, (.iload_n 1, 1)), (145, (.imul, 1)), (146, (.iload_n 3, 1)), (147, (.iadd, 1)), (148, (.baload, 1)), (149, (.ifCond .eq 16, 3)), (152, (.aload_n 0, 1)), (153, (.getfield 35, 3)), (156, (.iload_n 1, 1)), (157, (.baload, 1)), (158, (.ifCond .ne 7, 3)), (161, (.iconst 1, 1)), (162, (.goto 4, 3)), (165, (.iconst 0, 1)), (166, (.iadd, 1)), (167, (.istore_n 2, 1)), (168, (.iinc 3 1, 3)), (171, (.goto (-40), 3)), (174, (.aload_n 0, 1)), (175, (.getfield 117, 3)), (178, (.iload_n 1, 1)), (179, (.aload_n 0, 1)), (180, (.getfield 35, 3)), (183, (.iload_n 1, 1)), (184, (.baload, 1)), (185, (.bastore, 1)), (186, (.aload_n 0, 1)), (187, (.getfield 120, 3)), (190, (.iload_n 1, 1)), (191, (.aload_n 0, 1)), (192, (.getfield 45, 3)), (195, (.iload_n 1, 1)), (196, (.iaload, 1)), (197, (.iastore, 1)), (198, (.aload_n 0, 1)), (199, (.getfield 123, 3)), (202, (.iload_n 1, 1)), (203, (.iload_n 2, 1)), (204, (.iastore, 1)), (205, (.aload_n 0, 1)), (206, (.getfield 126, 3)), (209, (.iload_n 1, 1)), (210, (.aload_n 0, 1)), (211, (.getfield 69, 3)), (214, (.iload_n 1, 1)), (215, (.iaload, 1)), (216, (.iastore, 1)), (217, (.aload_n 0, 1)), (218, (.getfield 129, 3)), (221, (.iload_n 1, 1)), (222, (.aload_n 0, 1)), (223, (.getfield 66, 3)), (226, (.iload_n 1, 1)), (227, (.iaload, 1)), (228, (.iastore, 1)), (229, (.aload_n 0, 1)), (230, (.getfield 102, 3)), (233, (.iload_n 1, 1)), (234, (.iload_n 1, 1)), (235, (.iastore, 1)), (236, (.iinc 1 1, 3)), (239, (.goto (-232), 3)), (242, (.iconst 0, 1)), (243, (.istore_n 1, 1)), (244, (.iload_n 1, 1)), (245, (.bipush 32, 2)), (247, (.if_icmp .ge 93, 3)), (250, (.iconst (-1), 1)), (251, (.istore_n 2, 1)), (252, (.iconst 0, 1)), (253, (.istore_n 3, 1)), (254, (.iload_n 3, 1)), (255, (.aload_n 0, 1)), (256, (.getfield 180, 3)), (259, (.if_icmp .ge 75, 3)), (262, (.aload_n 0, 1)), (263, (.iload_n 3, 1)), (264, (.iload_n 1, 1)), (265, (.invokevirtual 250, 3)), (268, (.ifCond .eq 60, 3)), (271, (.iload_n 2, 1)), (272, (.iconst (-1), 1)), (273, (.if_icmp .ne 8, 3)), (276, (.iload_n 3, 1)), (277, (.istore_n 2, 1)), (278, (.goto 50, 3)), (281, (.aload_n 0, 1)), (282, (.iload_n 2, 1)), (283, (.invokevirtual 254, 3)), (286, (.istore 4, 2)), (288, (.aload_n 0, 1)), (289, (.iload_n 3, 1)), (290, (.invokevirtual 254, 3)), (293, (.istore 5, 2)), (295, (.aload_n 0, 1)), (296, (.getfield 102, 3)), (299, (.iload 4, 2)), (301, (.iload 5, 2)), (303, (.if_icmp .ge 8, 3)), (306, (.iload 5, 2)), (308, (.goto 5, 3)), (311, (.iload 4, 2)), (313, (.iload 4, 2)), (315, (.iload 5, 2)), (317, (.if_icmp .ge 8, 3)), (320, (.iload 4, 2)), (322, (.goto 5, 3)), (325, (.iload 5, 2)), (327, (.iastore, 1)), (328, (.iinc 3 1, 3)), (331, (.goto (-77), 3)), (334, (.iinc 1 1, 3)), (337, (.goto (-93), 3)), (340, (.aload_n 0, 1)), (341, (.iconst 0, 1)), (342, (.putfield 257, 3)), (345, (.iconst 0, 1)), (346, (.istore_n 1, 1)), (347, (.iload_n 1, 1)), (348, (.aload_n 0, 1)), (349, (.getfield 180, 3)), (352, (.if_icmp .ge 33, 3)), (355, (.aload_n 0, 1)), (356, (.dup, 1)), (357, (.getfield 257, 3)), (360, (.aload_n 0, 1)), (361, (.getfield 102, 3)), (364, (.iload_n 1, 1)), (365, (.iaload, 1)), (366, (.iload_n 1, 1)), (367, (.if_icmp .ne 7, 3)), (370, (.iconst 1, 1)), (371, (.goto 4, 3)), (374, (.iconst 0, 1)), (375, (.iadd, 1)), (376, (.putfield 257, 3)), (379, (.iinc 1 1, 3)), (382, (.goto (-35), 3)), (385, (.iconst 0, 1)), (386, (.istore_n 1, 1)), (387, (.iload_n 1, 1)), (388, (.aload_n 0, 1)), (389, (.getfield 180, 3)), (392, (.if_icmp .ge 20, 3)), (395, (.aload_n 0, 1)), (396, (.getfield 102, 3)), (399, (.iload_n 1, 1)), (400, (.aload_n 0, 1)), (401, (.iload_n 1, 1)), (402, (.invokevirtual 254, 3)), (405, (.iastore, 1)), (406, (.iinc 1 1, 3)), (409, (.goto (-22), 3)), (412, (.return_, 1))]
def fX8_settle : List (Nat × (Nat × Nat)) := [(247, (7, 50)), (180, (7, 39)), (72, (7, 23)), (7, (7, 0)), (78, (7, 25)), (60, (7, 18)), (35, (7, 10)), (111, (7, 51)), (63, (7, 19)), (114, (7, 52)), (39, (7, 11)), (117, (7, 53)), (120, (7, 54)), (45, (7, 13)), (123, (7, 55)), (126, (7, 56)), (69, (7, 21)), (129, (7, 57)), (66, (7, 20)), (102, (7, 46)), (257, (7, 45))]
def qX8_settle : List (Nat × (Int32 ⊕ Int64)) := []
noncomputable def lX8_settle : List (Nat × (Nat × (Option Nat × pFN))) := [(250, (3, (some 7, kX8_touches))), (254, (2, (some 7, kX8_rootOf)))]
noncomputable def kX8_settle : pFN := pm_met shM (some 7) tX8_settle fX8_settle qX8_settle lX8_settle 6 0
def mX8_settle : Room := { frames := 1, cells := 0, slots := 0, locals := 24 }
set_option maxRecDepth 100000 in
theorem tX8_settle_ok : ∀ q ∈ tX8_settle, decode cX8_settle q.1 = .ok q.2 ∧ pm_tok q.1 q.2.1 q.2.2 = true := by decide +kernel
set_option maxRecDepth 100000 in
theorem fX8_settle_ok : ∀ q ∈ fX8_settle, pm_Fok wsX8_settle yX8_settle.cls q.1 q.2.1 q.2.2 := List.forall_mem_cons.mpr ⟨⟨(RX8, TX8, 61), rfl, by decide, by decide +kernel, fun w h => List.mem_cons_of_mem _ (List.mem_append_right _ h)⟩, List.forall_mem_cons.mpr ⟨⟨(RX8, TX8, 61), rfl, by decide, by decide +kernel, fun w h => List.mem_cons_of_mem _ (List.mem_append_right _ h)⟩, List.forall_mem_cons.mpr ⟨⟨(RX8, TX8, 61), rfl, by decide, by decide +kernel, fun w h => List.mem_cons_of_mem _ (List.mem_append_right _ h)⟩, List.forall_mem_cons.mpr ⟨⟨(RX8, TX8, 61), rfl, by decide, by decide +kernel, fun w h => List.mem_cons_of_mem _ (List.mem_append_right _ h)⟩, List.forall_mem_cons.mpr ⟨⟨(RX8, TX8, 61), rfl, by decide, by decide +kernel, fun w h => List.mem_cons_of_mem _ (List.mem_append_right _ h)⟩, List.forall_mem_cons.mpr ⟨⟨(RX8, TX8, 61), rfl, by decide, by decide +kernel, fun w h => List.mem_cons_of_mem _ (List.mem_append_right _ h)⟩, List.forall_mem_cons.mpr ⟨⟨(RX8, TX8, 61), rfl, by decide, by decide +kernel, fun w h => List.mem_cons_of_mem _ (List.mem_append_right _ h)⟩, List.forall_mem_cons.mpr ⟨⟨(RX8, TX8, 61), rfl, by decide, by decide +kernel, fun w h => List.mem_cons_of_mem _ (List.mem_append_right _ h)⟩, List.forall_mem_cons.mpr ⟨⟨(RX8, TX8, 61), rfl, by decide, by decide +kernel, fun w h => List.mem_cons_of_mem _ (List.mem_append_right _ h)⟩, List.forall_mem_cons.mpr ⟨⟨(RX8, TX8, 61), rfl, by decide, by decide +kernel, fun w h => List.mem_cons_of_mem _ (List.mem_append_right _ h)⟩, List.forall_mem_cons.mpr ⟨⟨(RX8, TX8, 61), rfl, by decide, by decide +kernel, fun w h => List.mem_cons_of_mem _ (List.mem_append_right _ h)⟩, List.forall_mem_cons.mpr ⟨⟨(RX8, TX8, 61), rfl, by decide, by decide +kernel, fun w h => List.mem_cons_of_mem _ (List.mem_append_right _ h)⟩, List.forall_mem_cons.mpr ⟨⟨(RX8, TX8, 61), rfl, by decide, by decide +kernel, fun w h => List.mem_cons_of_mem _ (List.mem_append_right _ h)⟩, List.forall_mem_cons.mpr ⟨⟨(RX8, TX8, 61), rfl, by decide, by decide +kernel, fun w h => List.mem_cons_of_mem _ (List.mem_append_right _ h)⟩, List.forall_mem_cons.mpr ⟨⟨(RX8, TX8, 61), rfl, by decide, by decide +kernel, fun w h => List.mem_cons_of_mem _ (List.mem_append_right _ h)⟩, List.forall_mem_cons.mpr ⟨⟨(RX8, TX8, 61), rfl, by decide, by decide +kernel, fun w h => List.mem_cons_of_mem _ (List.mem_append_right _ h)⟩, List.forall_mem_cons.mpr ⟨⟨(RX8, TX8, 61), rfl, by decide, by decide +kernel, fun w h => List.mem_cons_of_mem _ (List.mem_append_right _ h)⟩, List.forall_mem_cons.mpr ⟨⟨(RX8, TX8, 61), rfl, by decide, by decide +kernel, fun w h => List.mem_cons_of_mem _ (List.mem_append_right _ h)⟩, List.forall_mem_cons.mpr ⟨⟨(RX8, TX8, 61), rfl, by decide, by decide +kernel, fun w h => List.mem_cons_of_mem _ (List.mem_append_right _ h)⟩, List.forall_mem_cons.mpr ⟨⟨(RX8, TX8, 61), rfl, by decide, by decide +kernel, fun w h => List.mem_cons_of_mem _ (List.mem_append_right _ h)⟩, List.forall_mem_cons.mpr ⟨⟨(RX8, TX8, 61), rfl, by decide, by decide +kernel, fun w h => List.mem_cons_of_mem _ (List.mem_append_right _ h)⟩, fun _ h => absurd h List.not_mem_nil⟩⟩⟩⟩⟩⟩⟩⟩⟩⟩⟩⟩⟩⟩⟩⟩⟩⟩⟩⟩⟩
set_option maxRecDepth 100000 in
theorem qX8_settle_ok : ∀ q ∈ qX8_settle, pm_Kok wsX8_settle yX8_settle.cls q.1 q.2 := fun _ h => absurd h List.not_mem_nil
set_option maxRecDepth 100000 in
theorem conX8_settle (l : Launch) : pm_Con l yX8_settle wsX8_settle mX8_settle shM 44 kX8_settle := pm_met_con (cc := cX8_settle) (by decide +kernel) rfl shM_N tX8_settle_ok fX8_settle_ok qX8_settle_ok (List.forall_mem_cons.mpr ⟨⟨yX8_touches, wsX8_touches, _, mX8_touches, cX8_touches, 5, pm_rt 2, (RX8, TX8, 61), conX8_touches l, pm_met_recv, rfl, gX8_settle_X8_touches, rfl, rfl, rfl, by decide +kernel, by decide⟩, List.forall_mem_cons.mpr ⟨⟨yX8_rootOf, wsX8_rootOf, _, mX8_rootOf, cX8_rootOf, 3, pm_rt 1, (RX8, TX8, 61), conX8_rootOf l, pm_met_recv, rfl, gX8_settle_X8_rootOf, rfl, rfl, rfl, by decide +kernel, by decide⟩, fun _ h => absurd h List.not_mem_nil⟩⟩)

def tX8_run : List (Nat × (Instr × Nat)) := [(0, (.iload_n 1, 1)), (1, (.iconst 1, 1)), (2, (.if_icmp .lt 8, 3)), (5, (.iload_n 1, 1)), (6, (.iconst 4, 1)), (7, (.if_icmp .le 5, 3)), (10, (.iconst (-1), 1)), (11, (.ireturn, 1)), (12, (.aload_n 0, 1)), (13, (.aload_n 0, 1)), (14, (.getfield 145, 3)), (17, (.putfield 180, 3)), (20, (.aload_n 0, 1)), (21, (.iconst 0, 1)), (22, (.putfield 183, 3)), (25, (.aload_n 0, 1)), (26, (.iconst 0, 1)), (27, (.putfield 186, 3)), (30, (.aload_n 0, 1)), (31, (.iconst 0, 1)), (32, (.putfield 189, 3)), (35, (.aload_n 0, 1)), (36, (.iconst 0, 1)), (37, (.putfield 192, 3)), (40, (.aload_n 0, 1)), (41, (.iconst 0, 1)), (42, (.putfield 195, 3)), (45, (.aload_n 0, 1)), (46, (.iconst 0, 1)), (47, (.putfield 177, 3)), (50, (.aload_n 0, 1)), (51, (.iconst 0, 1)), (52, (.putfield 174, 3)), (55, (.aload_n 0, 1)), (56, (.iconst 0, 1)), (57, (.putfield 198, 3)), (60, (.aload_n 0, 1)), (61, (.iconst 0, 1)), (62, (.putfield 201, 3)), (65, (.iconst 0, 1)), (66, (.istore_n 3, 1)), (67, (.iload_n 3, 1)), (68, (.sipush 512, 3)), (71, (.if_icmp .ge 23, 3)), (74, (.aload_n 0, 1)), (75, (.getfield 72, 3)), (78, (.iload_n 3, 1)), (79, (.iconst 0, 1)), (80, (.bastore, 1)), (81, (.aload_n 0, 1)), (82, (.getfield 75, 3)), (85, (.iload_n 3, 1)), (86, (.iconst 0, 1)), (87, (.bastore, 1)), (88, (.iinc 3 1, 3)), (91, (.goto (-24), 3)), (94, (.iconst 0, 1)), (95, (.istore_n 3, 1)), (96, (.iload_n 3, 1)), (97, (.bipush 16, 2)), (99, (.if_icmp .ge 58, 3)), (102, (.aload_n 0, 1)), (103, (.getfield 84, 3)), (106, (.iload_n 3, 1)), (107, (.iconst 0, 1)), (108, (.iastore, 1)), (109, (.aload_n 0, 1)), (110, (.getfield 87, 3)), (113, (.iload_n 3, 1)), (114, (.iconst 0, 1)), (115, (.iastore, 1)), (116, (.aload_n 0, 1)), (117, (.getfield 66, 3)), (120, (.iload_n 3, 1)), (121, (.iconst 0, 1)), (122, (.iastore, 1)), (123, (.aload_n 0, 1)), (124, (.getfield 69, 3)), (127, (.iload_n 3, 1)), (128, (.iconst 0, 1)), (129, (.iastore, 1)), (130, (.aload_n 0, 1)), (131, (.getfield 45, 3)), (134, (.iload_n 3, 1)), (135, (.iconst 0, 1)), (136, (.iastore, 1)), (137, (.aload_n 0, 1)), (138, (.getfield 35, 3)), (141, (.iload_n 3, 1)), (142, (.iconst 0, 1)), (143, (.bastore, 1)), (144, (.aload_n 0, 1)), (145, (.getfield 60, 3)), (148, (.iload_n 3, 1)), (149, (.iconst 0, 1)), (150, (.iastore, 1)), (151, (.iinc 3 1, 3)), (154, (.goto (-58), 3)), (157, (.iconst 0, 1)), (158, (.istore_n 3, 1)), (159, (.iload_n 3, 1)), (160, (.iconst 4, 1)), (161, (.if_icmp .ge 16, 3)), (164, (.aload_n 0, 1)), (165, (.getfield 93, 3)), (168, (.iload_n 3, 1)), (169, (.iconst 0, 1)), (170, (.iastore, 1)), (171, (.iinc 3 1, 3)), (174, (.goto (-15), 3)), (177, (.iload_n 2, 1)), (178, (.istore_n 3, 1)), (179, (.aload_n 0, 1)), (180, (.getfield 186, 3)), (183, (.ifCond .ne 43, 3)), (186, (.aload_n 0, 1)), (187, (.iload_n 1, 1)), (188, (.invokevirtual 204, 3)), (191, (.ifCond .ne 35, 3)), (194, (.iload_n 3, 1)), (195, (.ldc 208, 2)), (197, (.imul, 1)), (198, (.sipush 12345, 3)), (201, (.iadd, 1)), (202, (.istore_n 3, 1)), (203, (.aload_n 0, 1)), (204, (.dup, 1)), (205, (.getfield 183, 3)), (208, (.iconst 1, 1)), (209, (.iadd, 1)), (210, (.putfield 183, 3)), (213, (.aload_n 0, 1)), (214, (.iload_n 3, 1)), (215, (.bipush 16, 2)), (217, (.iushr, 1)), (218, (.iload_n 1, 1)), (219, (.irem, 1)), (220, (.invokevirtual 209, 3)), (223, (.goto (-44), 3)), (226, (.aload_n 0, 1)), (227, (.getfield 186, 3)), (230, (.ifCond .eq 7, 3)), (233, (.aload_n 0, 1)), (234, (.invokevirtual 213, 3)), (237, (.aload_n 0, 1)), (238, (.invokevirtual 216, 3)), (241, (.aload_n 0, 1)), (242, (.getfield 183, 3)), (245, (.ireturn, 1))]
def fX8_run : List (Nat × (Nat × Nat)) := [(145, (7, 1)), (180, (7, 39)), (183, (7, 40)), (186, (7, 41)), (189, (7, 42)), (192, (7, 43)), (195, (7, 44)), (177, (7, 47)), (174, (7, 22)), (198, (7, 37)), (201, (7, 38)), (72, (7, 23)), (75, (7, 24)), (84, (7, 31)), (87, (7, 32)), (66, (7, 20)), (69, (7, 21)), (45, (7, 13)), (35, (7, 10)), (60, (7, 18)), (93, (7, 34))]
def qX8_run : List (Nat × (Int32 ⊕ Int64)) := [(208, .inl (1103515245))]
noncomputable def lX8_run : List (Nat × (Nat × (Option Nat × pFN))) := [(204, (2, (some 7, kX8_isDone))), (209, (2, (some 7, kX8_step))), (213, (1, (some 7, kX8_allInOrder))), (216, (1, (some 7, kX8_settle)))]
noncomputable def kX8_run : pFN := pm_met shM (some 7) tX8_run fX8_run qX8_run lX8_run 4 1
def mX8_run : Room := { frames := 4, cells := 0, slots := 0, locals := 96 }
set_option maxRecDepth 100000 in
theorem tX8_run_ok : ∀ q ∈ tX8_run, decode cX8_run q.1 = .ok q.2 ∧ pm_tok q.1 q.2.1 q.2.2 = true := by decide +kernel
set_option maxRecDepth 100000 in
theorem fX8_run_ok : ∀ q ∈ fX8_run, pm_Fok wsX8_run yX8_run.cls q.1 q.2.1 q.2.2 := List.forall_mem_cons.mpr ⟨⟨(RX8, TX8, 61), rfl, by decide, by decide +kernel, fun w h => List.mem_cons_of_mem _ (List.mem_append_right _ h)⟩, List.forall_mem_cons.mpr ⟨⟨(RX8, TX8, 61), rfl, by decide, by decide +kernel, fun w h => List.mem_cons_of_mem _ (List.mem_append_right _ h)⟩, List.forall_mem_cons.mpr ⟨⟨(RX8, TX8, 61), rfl, by decide, by decide +kernel, fun w h => List.mem_cons_of_mem _ (List.mem_append_right _ h)⟩, List.forall_mem_cons.mpr ⟨⟨(RX8, TX8, 61), rfl, by decide, by decide +kernel, fun w h => List.mem_cons_of_mem _ (List.mem_append_right _ h)⟩, List.forall_mem_cons.mpr ⟨⟨(RX8, TX8, 61), rfl, by decide, by decide +kernel, fun w h => List.mem_cons_of_mem _ (List.mem_append_right _ h)⟩, List.forall_mem_cons.mpr ⟨⟨(RX8, TX8, 61), rfl, by decide, by decide +kernel, fun w h => List.mem_cons_of_mem _ (List.mem_append_right _ h)⟩, List.forall_mem_cons.mpr ⟨⟨(RX8, TX8, 61), rfl, by decide, by decide +kernel, fun w h => List.mem_cons_of_mem _ (List.mem_append_right _ h)⟩, List.forall_mem_cons.mpr ⟨⟨(RX8, TX8, 61), rfl, by decide, by decide +kernel, fun w h => List.mem_cons_of_mem _ (List.mem_append_right _ h)⟩, List.forall_mem_cons.mpr ⟨⟨(RX8, TX8, 61), rfl, by decide, by decide +kernel, fun w h => List.mem_cons_of_mem _ (List.mem_append_right _ h)⟩, List.forall_mem_cons.mpr ⟨⟨(RX8, TX8, 61), rfl, by decide, by decide +kernel, fun w h => List.mem_cons_of_mem _ (List.mem_append_right _ h)⟩, List.forall_mem_cons.mpr ⟨⟨(RX8, TX8, 61), rfl, by decide, by decide +kernel, fun w h => List.mem_cons_of_mem _ (List.mem_append_right _ h)⟩, List.forall_mem_cons.mpr ⟨⟨(RX8, TX8, 61), rfl, by decide, by decide +kernel, fun w h => List.mem_cons_of_mem _ (List.mem_append_right _ h)⟩, List.forall_mem_cons.mpr ⟨⟨(RX8, TX8, 61), rfl, by decide, by decide +kernel, fun w h => List.mem_cons_of_mem _ (List.mem_append_right _ h)⟩, List.forall_mem_cons.mpr ⟨⟨(RX8, TX8, 61), rfl, by decide, by decide +kernel, fun w h => List.mem_cons_of_mem _ (List.mem_append_right _ h)⟩, List.forall_mem_cons.mpr ⟨⟨(RX8, TX8, 61), rfl, by decide, by decide +kernel, fun w h => List.mem_cons_of_mem _ (List.mem_append_right _ h)⟩, List.forall_mem_cons.mpr ⟨⟨(RX8, TX8, 61), rfl, by decide, by decide +kernel, fun w h => List.mem_cons_of_mem _ (List.mem_append_right _ h)⟩, List.forall_mem_cons.mpr ⟨⟨(RX8, TX8, 61), rfl, by decide, by decide +kernel, fun w h => List.mem_cons_of_mem _ (List.mem_append_right _ h)⟩, List.forall_mem_cons.mpr ⟨⟨(RX8, TX8, 61), rfl, by decide, by decide +kernel, fun w h => List.mem_cons_of_mem _ (List.mem_append_right _ h)⟩, List.forall_mem_cons.mpr ⟨⟨(RX8, TX8, 61), rfl, by decide, by decide +kernel, fun w h => List.mem_cons_of_mem _ (List.mem_append_right _ h)⟩, List.forall_mem_cons.mpr ⟨⟨(RX8, TX8, 61), rfl, by decide, by decide +kernel, fun w h => List.mem_cons_of_mem _ (List.mem_append_right _ h)⟩, List.forall_mem_cons.mpr ⟨⟨(RX8, TX8, 61), rfl, by decide, by decide +kernel, fun w h => List.mem_cons_of_mem _ (List.mem_append_right _ h)⟩, fun _ h => absurd h List.not_mem_nil⟩⟩⟩⟩⟩⟩⟩⟩⟩⟩⟩⟩⟩⟩⟩⟩⟩⟩⟩⟩⟩
set_option maxRecDepth 100000 in
theorem qX8_run_ok : ∀ q ∈ qX8_run, pm_Kok wsX8_run yX8_run.cls q.1 q.2 := List.forall_mem_cons.mpr ⟨(by decide +kernel : _ ∈ wsX8_run), fun _ h => absurd h List.not_mem_nil⟩
set_option maxRecDepth 100000 in
theorem conX8_run (l : Launch) : pm_Con l yX8_run wsX8_run mX8_run shM 44 kX8_run := pm_met_con (cc := cX8_run) (by decide +kernel) rfl shM_N tX8_run_ok fX8_run_ok qX8_run_ok (List.forall_mem_cons.mpr ⟨⟨yX8_isDone, wsX8_isDone, _, mX8_isDone, cX8_isDone, 4, pm_rt 2, (RX8, TX8, 61), conX8_isDone l, pm_met_recv, rfl, gX8_run_X8_isDone, rfl, rfl, rfl, by decide +kernel, by decide⟩, List.forall_mem_cons.mpr ⟨⟨yX8_step, wsX8_step, _, mX8_step, cX8_step, 3, pm_rt 0, (RX8, TX8, 61), conX8_step l, pm_met_recv, rfl, gX8_run_X8_step, rfl, rfl, rfl, by decide +kernel, by decide⟩, List.forall_mem_cons.mpr ⟨⟨yX8_allInOrder, wsX8_allInOrder, _, mX8_allInOrder, cX8_allInOrder, 4, pm_rt 0, (RX8, TX8, 61), conX8_allInOrder l, pm_met_recv, rfl, gX8_run_X8_allInOrder, rfl, rfl, rfl, by decide +kernel, by decide⟩, List.forall_mem_cons.mpr ⟨⟨yX8_settle, wsX8_settle, _, mX8_settle, cX8_settle, 6, pm_rt 0, (RX8, TX8, 61), conX8_settle l, pm_met_recv, rfl, gX8_run_X8_settle, rfl, rfl, rfl, by decide +kernel, by decide⟩, fun _ h => absurd h List.not_mem_nil⟩⟩⟩⟩)

def tX8_at : List (Nat × (Instr × Nat)) := [(0, (.iload_n 1, 1)), (1, (.ifCond .lt 18, 3)), (4, (.iload_n 1, 1)), (5, (.bipush 32, 2)), (7, (.if_icmp .ge 12, 3)), (10, (.aload_n 0, 1)), (11, (.getfield 7, 3)), (14, (.iload_n 1, 1)), (15, (.laload, 1)), (16, (.goto 4, 3)), (19, (.lconst 0, 1)), (20, (.lreturn, 1))]
def fX8_at : List (Nat × (Nat × Nat)) := [(7, (7, 0))]
def qX8_at : List (Nat × (Int32 ⊕ Int64)) := []
noncomputable def lX8_at : List (Nat × (Nat × (Option Nat × pFN))) := []
noncomputable def kX8_at : pFN := pm_met shM (some 7) tX8_at fX8_at qX8_at lX8_at 2 3
def mX8_at : Room := { frames := 0, cells := 0, slots := 0, locals := 0 }
set_option maxRecDepth 100000 in
theorem tX8_at_ok : ∀ q ∈ tX8_at, decode cX8_at q.1 = .ok q.2 ∧ pm_tok q.1 q.2.1 q.2.2 = true := by decide +kernel
set_option maxRecDepth 100000 in
theorem fX8_at_ok : ∀ q ∈ fX8_at, pm_Fok wsX8_at yX8_at.cls q.1 q.2.1 q.2.2 := List.forall_mem_cons.mpr ⟨⟨(RX8, TX8, 61), rfl, by decide, by decide +kernel, fun w h => List.mem_cons_of_mem _ (List.mem_append_right _ h)⟩, fun _ h => absurd h List.not_mem_nil⟩
set_option maxRecDepth 100000 in
theorem qX8_at_ok : ∀ q ∈ qX8_at, pm_Kok wsX8_at yX8_at.cls q.1 q.2 := fun _ h => absurd h List.not_mem_nil
set_option maxRecDepth 100000 in
theorem conX8_at (l : Launch) : pm_Con l yX8_at wsX8_at mX8_at shM 44 kX8_at := pm_met_con (cc := cX8_at) (by decide +kernel) rfl shM_N tX8_at_ok fX8_at_ok qX8_at_ok (fun _ h => absurd h List.not_mem_nil)

def tX8_inOrder : List (Nat × (Instr × Nat)) := [(0, (.iload_n 1, 1)), (1, (.ifCond .lt 9, 3)), (4, (.iload_n 1, 1)), (5, (.bipush 32, 2)), (7, (.if_icmp .lt 5, 3)), (10, (.lconst 0, 1)), (11, (.lreturn, 1)), (12, (.iconst 0, 1)), (13, (.istore_n 2, 1)), (14, (.iload_n 2, 1)), (15, (.bipush 32, 2)), (17, (.if_icmp .ge 21, 3)), (20, (.aload_n 0, 1)), (21, (.getfield 132, 3)), (24, (.iload_n 2, 1)), (25, (.aload_n 0, 1)), (26, (.getfield 7, 3)), (29, (.iload_n 2, 1)), (30, (.laload, 1)), (31, (.lastore, 1)), (32, (.iinc 2 1, 3)), (35, (.goto (-21), 3)), (38, (.iconst 0, 1)), (39, (.istore_n 2, 1)), (40, (.iload_n 2, 1)), (41, (.aload_n 0, 1)), (42, (.getfield 145, 3)), (45, (.if_icmp .ge 379, 3)), (48, (.iconst 0, 1)), (49, (.istore_n 3, 1)), (50, (.iload_n 3, 1)), (51, (.bipush 32, 2)), (53, (.if_icmp .ge 21, 3)), (56, (.aload_n 0, 1)), (57, (.getfield 135, 3)), (60, (.iload_n 3, 1)), (61, (.aload_n 0, 1)), (62, (.getfield 132, 3)), (65, (.iload_n 3, 1)), (66, (.laload, 1)), (67, (.lastore, 1)), (68, (.iinc 3 1, 3)), (71, (.goto (-21), 3)), (74, (.iconst 0, 1)), (75, (.istore_n 3, 1)), (76, (.iload_n 3, 1)), (77, (.iconst 4, 1)), (78, (.if_icmp .ge 16, 3)), (81, (.aload_n 0, 1)), (82, (.getfield 138, 3)), (85, (.iload_n 3, 1)), (86, (.lconst 0, 1)), (87, (.lastore, 1)), (88, (.iinc 3 1, 3)), (91, (.goto (-15), 3)), (94, (.iconst 0, 1)), (95, (.istore_n 3, 1)), (96, (.iconst 0, 1)), (97, (.istore 4, 2)), (99, (.iload 4, 2)), (101, (.aload_n 0, 1)), (102, (.getfield 13, 3)), (105, (.iload_n 2, 1)), (106, (.iaload, 1)), (107, (.if_icmp .ge 277, 3)), (110, (.iload_n 3, 1)), (111, (.ifCond .ne 273, 3)), (114, (.bipush 12, 2)), (116, (.iload_n 2, 1)), (117, (.imul, 1)), (118, (.iload 4, 2)), (120, (.iadd, 1)), (121, (.istore 5, 2)), (123, (.aload_n 0, 1)), (124, (.getfield 20, 3)), (127, (.iload 5, 2)), (129, (.iaload, 1)), (130, (.istore 6, 2)), (132, (.aload_n 0, 1)), (133, (.getfield 23, 3)), (136, (.iload 5, 2)), (138, (.iaload, 1)), (139, (.istore 7, 2)), (141, (.aload_n 0, 1)), (142, (.getfield 17, 3)), (145, (.iload 5, 2)), (147, (.iaload, 1)), (148, (.istore 8, 2)), (150, (.aload_n 0, 1)), (151, (.getfield 26, 3)), (154, (.iload 5, 2)), (156, (.laload, 1)), (157, (.aload_n 0, 1)), (158, (.getfield 138, 3)), (161, (.iload 7, 2)), (163, (.laload, 1)), (164, (.ladd, 1)), (165, (.invokestatic 166, 3)), (168, (.istore 9, 2)), (170, (.iload 8, 2)), (172, (.ifCond .ne 20, 3)), (175, (.aload_n 0, 1)), (176, (.getfield 138, 3)), (179, (.iload 6, 2)), (181, (.aload_n 0, 1)), (182, (.getfield 26, 3)), (185, (.iload 5, 2)), (187, (.laload, 1)), (188, (.lastore, 1)), (189, (.goto 189, 3)), (192, (.iload 8, 2)), (194, (.iconst 1, 1)), (195, (.if_icmp .ne 20, 3)), (198, (.aload_n 0, 1)), (199, (.getfield 138, 3)), (202, (.iload 6, 2)), (204, (.aload_n 0, 1)), (205, (.getfield 135, 3)), (208, (.iload 9, 2)), (210, (.laload, 1)), (211, (.lastore, 1)), (212, (.goto 166, 3)), (215, (.iload 8, 2)), (217, (.iconst 2, 1)), (218, (.if_icmp .ne 20, 3)), (221, (.aload_n 0, 1)), (222, (.getfield 135, 3)), (225, (.iload 9, 2)), (227, (.aload_n 0, 1)), (228, (.getfield 138, 3)), (231, (.iload 6, 2)), (233, (.laload, 1)), (234, (.lastore, 1)), (235, (.goto 143, 3)), (238, (.iload 8, 2)), (240, (.iconst 3, 1)), (241, (.if_icmp .ne 23, 3)), (244, (.aload_n 0, 1)), (245, (.getfield 138, 3)), (248, (.iload 6, 2)), (250, (.dup2, 1)), (251, (.laload, 1)), (252, (.aload_n 0, 1)), (253, (.getfield 138, 3)), (256, (.iload 7, 2)), (258, (.laload, 1)), (259, (.ladd, 1)), (260, (.lastore, 1)), (261, (.goto 117, 3)), (264, (.iload 8, 2)), (266, (.iconst 4, 1)), (267, (.if_icmp .ne 23, 3)), (270, (.aload_n 0, 1)), (271, (.getfield 138, 3)), (274, (.iload 6, 2)), (276, (.dup2, 1)), (277, (.laload, 1)), (278, (.aload_n 0, 1)), (279, (.getfield 138, 3)), (282, (.iload 7, 2)), (284, (.laload, 1)), (285, (.lsub, 1)), (286, (.lastore, 1)), (287, (.goto 91, 3)), (290, (.iload 8, 2)), (292, (.iconst 5, 1)), (293, (.if_icmp .ne 23, 3)), (296, (.aload_n 0, 1)), (297, (.getfield 138, 3)), (300, (.iload 6, 2)), (302, (.dup2, 1)), (303, (.laload, 1)), (304, (.aload_n 0, 1)), (305, (.getfield 138, 3)), (308, (.iload 7, 2)), (310, (.laload, 1)), (311, (.lmul, 1)), (312, (.lastore, 1)), (313, (.goto 65, 3)), (316, (.iload 8, 2)), (318, (.bipush 6, 2)), (320, (.if_icmp .ne 37, 3)), (323, (.aload_n 0, 1)), (324, (.getfield 138, 3)), (327, (.iload 6, 2)), (329, (.laload, 1)), (330, (.aload_n 0, 1)), (331, (.getfield 138, 3)), (334, (.iload 7, 2)), (336, (.laload, 1)), (337, (.lcmp, 1)), (338, (.ifCond .ge 19, 3)), (341, (.iload 4, 2)), (343, (.aload_n 0, 1)), (344, (.getfield 26, 3)), (347, (.iload 5, 2)), (349, (.laload, 1)), (350, (.l2i, 1)), (351, (.iadd, 1)), (352, (.istore 4, 2)), (354, (.goto 24, 3)), (357, (.iload 8, 2)), (359, (.bipush 8, 2)), (361, (.if_icmp .ne 17, 3)), (364, (.aload_n 0, 1)), (365, (.getfield 138, 3)), (368, (.iload 6, 2)), (370, (.laload, 1)), (371, (.lconst 0, 1)), (372, (.lcmp, 1)), (373, (.ifCond .ge 5, 3)), (376, (.iconst 1, 1)), (377, (.istore_n 3, 1)), (378, (.iinc 4 1, 3)), (381, (.goto (-282), 3)), (384, (.iconst 0, 1)), (385, (.istore 5, 2)), (387, (.iload 5, 2)), (389, (.bipush 32, 2)), (391, (.if_icmp .ge 27, 3)), (394, (.iload_n 3, 1)), (395, (.ifCond .ne 23, 3)), (398, (.aload_n 0, 1)), (399, (.getfield 132, 3)), (402, (.iload 5, 2)), (404, (.aload_n 0, 1)), (405, (.getfield 135, 3)), (408, (.iload 5, 2)), (410, (.laload, 1)), (411, (.lastore, 1)), (412, (.iinc 5 1, 3)), (415, (.goto (-28), 3)), (418, (.iinc 2 1, 3)), (421, (.goto (-381), 3)), (424, (.aload_n 0, 1)), (425, (.getfield 132, 3)), (428, (.iload_n 1, 1)), (429, (.laload, 1)), (430, (.lreturn, 1))]
def fX8_inOrder : List (Nat × (Nat × Nat)) := [(132, (7, 58)), (7, (7, 0)), (145, (7, 1)), (135, (7, 59)), (138, (7, 60)), (13, (7, 3)), (20, (7, 5)), (23, (7, 6)), (17, (7, 4)), (26, (7, 7))]
def qX8_inOrder : List (Nat × (Int32 ⊕ Int64)) := []
noncomputable def lX8_inOrder : List (Nat × (Nat × (Option Nat × pFN))) := [(166, (1, (none, kX8_leafOf)))]
noncomputable def kX8_inOrder : pFN := pm_met shM (some 7) tX8_inOrder fX8_inOrder qX8_inOrder lX8_inOrder 10 3
def mX8_inOrder : Room := { frames := 1, cells := 0, slots := 0, locals := 22 }
set_option maxRecDepth 100000 in
theorem tX8_inOrder_ok : ∀ q ∈ tX8_inOrder, decode cX8_inOrder q.1 = .ok q.2 ∧ pm_tok q.1 q.2.1 q.2.2 = true := by decide +kernel
set_option maxRecDepth 100000 in
theorem fX8_inOrder_ok : ∀ q ∈ fX8_inOrder, pm_Fok wsX8_inOrder yX8_inOrder.cls q.1 q.2.1 q.2.2 := List.forall_mem_cons.mpr ⟨⟨(RX8, TX8, 61), rfl, by decide, by decide +kernel, fun w h => List.mem_cons_of_mem _ (List.mem_append_right _ h)⟩, List.forall_mem_cons.mpr ⟨⟨(RX8, TX8, 61), rfl, by decide, by decide +kernel, fun w h => List.mem_cons_of_mem _ (List.mem_append_right _ h)⟩, List.forall_mem_cons.mpr ⟨⟨(RX8, TX8, 61), rfl, by decide, by decide +kernel, fun w h => List.mem_cons_of_mem _ (List.mem_append_right _ h)⟩, List.forall_mem_cons.mpr ⟨⟨(RX8, TX8, 61), rfl, by decide, by decide +kernel, fun w h => List.mem_cons_of_mem _ (List.mem_append_right _ h)⟩, List.forall_mem_cons.mpr ⟨⟨(RX8, TX8, 61), rfl, by decide, by decide +kernel, fun w h => List.mem_cons_of_mem _ (List.mem_append_right _ h)⟩, List.forall_mem_cons.mpr ⟨⟨(RX8, TX8, 61), rfl, by decide, by decide +kernel, fun w h => List.mem_cons_of_mem _ (List.mem_append_right _ h)⟩, List.forall_mem_cons.mpr ⟨⟨(RX8, TX8, 61), rfl, by decide, by decide +kernel, fun w h => List.mem_cons_of_mem _ (List.mem_append_right _ h)⟩, List.forall_mem_cons.mpr ⟨⟨(RX8, TX8, 61), rfl, by decide, by decide +kernel, fun w h => List.mem_cons_of_mem _ (List.mem_append_right _ h)⟩, List.forall_mem_cons.mpr ⟨⟨(RX8, TX8, 61), rfl, by decide, by decide +kernel, fun w h => List.mem_cons_of_mem _ (List.mem_append_right _ h)⟩, List.forall_mem_cons.mpr ⟨⟨(RX8, TX8, 61), rfl, by decide, by decide +kernel, fun w h => List.mem_cons_of_mem _ (List.mem_append_right _ h)⟩, fun _ h => absurd h List.not_mem_nil⟩⟩⟩⟩⟩⟩⟩⟩⟩⟩
set_option maxRecDepth 100000 in
theorem qX8_inOrder_ok : ∀ q ∈ qX8_inOrder, pm_Kok wsX8_inOrder yX8_inOrder.cls q.1 q.2 := fun _ h => absurd h List.not_mem_nil
set_option maxRecDepth 100000 in
theorem conX8_inOrder (l : Launch) : pm_Con l yX8_inOrder wsX8_inOrder mX8_inOrder shM 44 kX8_inOrder := pm_met_con (cc := cX8_inOrder) (by decide +kernel) rfl shM_N tX8_inOrder_ok fX8_inOrder_ok qX8_inOrder_ok (List.forall_mem_cons.mpr ⟨Or.inl ⟨yX8_leafOf, wsX8_leafOf, _, mX8_leafOf, cX8_leafOf, 3, pm_rt 1, conX8_leafOf l, gX8_inOrder_X8_leafOf, rfl, rfl, rfl, by decide +kernel, by decide⟩, fun _ h => absurd h List.not_mem_nil⟩)

def tX8_events : List (Nat × (Instr × Nat)) := [(0, (.aload_n 0, 1)), (1, (.getfield 247, 3)), (4, (.ireturn, 1))]
def fX8_events : List (Nat × (Nat × Nat)) := [(247, (7, 50))]
def qX8_events : List (Nat × (Int32 ⊕ Int64)) := []
noncomputable def lX8_events : List (Nat × (Nat × (Option Nat × pFN))) := []
noncomputable def kX8_events : pFN := pm_met shM (some 7) tX8_events fX8_events qX8_events lX8_events 1 1
def mX8_events : Room := { frames := 0, cells := 0, slots := 0, locals := 0 }
set_option maxRecDepth 100000 in
theorem tX8_events_ok : ∀ q ∈ tX8_events, decode cX8_events q.1 = .ok q.2 ∧ pm_tok q.1 q.2.1 q.2.2 = true := by decide +kernel
set_option maxRecDepth 100000 in
theorem fX8_events_ok : ∀ q ∈ fX8_events, pm_Fok wsX8_events yX8_events.cls q.1 q.2.1 q.2.2 := List.forall_mem_cons.mpr ⟨⟨(RX8, TX8, 61), rfl, by decide, by decide +kernel, fun w h => List.mem_cons_of_mem _ (List.mem_append_right _ h)⟩, fun _ h => absurd h List.not_mem_nil⟩
set_option maxRecDepth 100000 in
theorem qX8_events_ok : ∀ q ∈ qX8_events, pm_Kok wsX8_events yX8_events.cls q.1 q.2 := fun _ h => absurd h List.not_mem_nil
set_option maxRecDepth 100000 in
theorem conX8_events (l : Launch) : pm_Con l yX8_events wsX8_events mX8_events shM 44 kX8_events := pm_met_con (cc := cX8_events) (by decide +kernel) rfl shM_N tX8_events_ok fX8_events_ok qX8_events_ok (fun _ h => absurd h List.not_mem_nil)

def tX8_event : List (Nat × (Instr × Nat)) := [(0, (.iload_n 1, 1)), (1, (.ifCond .lt 20, 3)), (4, (.iload_n 1, 1)), (5, (.aload_n 0, 1)), (6, (.getfield 247, 3)), (9, (.if_icmp .ge 12, 3)), (12, (.iload_n 2, 1)), (13, (.ifCond .lt 8, 3)), (16, (.iload_n 2, 1)), (17, (.iconst 1, 1)), (18, (.if_icmp .le 5, 3)), (21, (.lconst 0, 1)), (22, (.lreturn, 1)), (23, (.iload_n 2, 1)), (24, (.ifCond .ne 12, 3)), (27, (.aload_n 0, 1)), (28, (.getfield 111, 3)), (31, (.iload_n 1, 1)), (32, (.laload, 1)), (33, (.goto 10, 3)), (36, (.aload_n 0, 1)), (37, (.getfield 114, 3)), (40, (.iload_n 1, 1)), (41, (.iaload, 1)), (42, (.i2l, 1)), (43, (.lreturn, 1))]
def fX8_event : List (Nat × (Nat × Nat)) := [(247, (7, 50)), (111, (7, 51)), (114, (7, 52))]
def qX8_event : List (Nat × (Int32 ⊕ Int64)) := []
noncomputable def lX8_event : List (Nat × (Nat × (Option Nat × pFN))) := []
noncomputable def kX8_event : pFN := pm_met shM (some 7) tX8_event fX8_event qX8_event lX8_event 3 3
def mX8_event : Room := { frames := 0, cells := 0, slots := 0, locals := 0 }
set_option maxRecDepth 100000 in
theorem tX8_event_ok : ∀ q ∈ tX8_event, decode cX8_event q.1 = .ok q.2 ∧ pm_tok q.1 q.2.1 q.2.2 = true := by decide +kernel
set_option maxRecDepth 100000 in
theorem fX8_event_ok : ∀ q ∈ fX8_event, pm_Fok wsX8_event yX8_event.cls q.1 q.2.1 q.2.2 := List.forall_mem_cons.mpr ⟨⟨(RX8, TX8, 61), rfl, by decide, by decide +kernel, fun w h => List.mem_cons_of_mem _ (List.mem_append_right _ h)⟩, List.forall_mem_cons.mpr ⟨⟨(RX8, TX8, 61), rfl, by decide, by decide +kernel, fun w h => List.mem_cons_of_mem _ (List.mem_append_right _ h)⟩, List.forall_mem_cons.mpr ⟨⟨(RX8, TX8, 61), rfl, by decide, by decide +kernel, fun w h => List.mem_cons_of_mem _ (List.mem_append_right _ h)⟩, fun _ h => absurd h List.not_mem_nil⟩⟩⟩
set_option maxRecDepth 100000 in
theorem qX8_event_ok : ∀ q ∈ qX8_event, pm_Kok wsX8_event yX8_event.cls q.1 q.2 := fun _ h => absurd h List.not_mem_nil
set_option maxRecDepth 100000 in
theorem conX8_event (l : Launch) : pm_Con l yX8_event wsX8_event mX8_event shM 44 kX8_event := pm_met_con (cc := cX8_event) (by decide +kernel) rfl shM_N tX8_event_ok fX8_event_ok qX8_event_ok (fun _ h => absurd h List.not_mem_nil)

def tX8_of : List (Nat × (Instr × Nat)) := [(0, (.iload_n 1, 1)), (1, (.ifCond .lt 20, 3)), (4, (.iload_n 1, 1)), (5, (.aload_n 0, 1)), (6, (.getfield 180, 3)), (9, (.if_icmp .ge 12, 3)), (12, (.iload_n 2, 1)), (13, (.ifCond .lt 8, 3)), (16, (.iload_n 2, 1)), (17, (.iconst 5, 1)), (18, (.if_icmp .le 5, 3)), (21, (.iconst (-1), 1)), (22, (.ireturn, 1)), (23, (.iload_n 2, 1)), (24, (.ifCond .ne 12, 3)), (27, (.aload_n 0, 1)), (28, (.getfield 129, 3)), (31, (.iload_n 1, 1)), (32, (.iaload, 1)), (33, (.goto 73, 3)), (36, (.iload_n 2, 1)), (37, (.iconst 1, 1)), (38, (.if_icmp .ne 12, 3)), (41, (.aload_n 0, 1)), (42, (.getfield 126, 3)), (45, (.iload_n 1, 1)), (46, (.iaload, 1)), (47, (.goto 59, 3)), (50, (.iload_n 2, 1)), (51, (.iconst 2, 1)), (52, (.if_icmp .ne 20, 3)), (55, (.aload_n 0, 1)), (56, (.getfield 117, 3)), (59, (.iload_n 1, 1)), (60, (.baload, 1)), (61, (.ifCond .eq 7, 3)), (64, (.iconst 1, 1)), (65, (.goto 41, 3)), (68, (.iconst 0, 1)), (69, (.goto 37, 3)), (72, (.iload_n 2, 1)), (73, (.iconst 3, 1)), (74, (.if_icmp .ne 12, 3)), (77, (.aload_n 0, 1)), (78, (.getfield 120, 3)), (81, (.iload_n 1, 1)), (82, (.iaload, 1)), (83, (.goto 23, 3)), (86, (.iload_n 2, 1)), (87, (.iconst 4, 1)), (88, (.if_icmp .ne 12, 3)), (91, (.aload_n 0, 1)), (92, (.getfield 123, 3)), (95, (.iload_n 1, 1)), (96, (.iaload, 1)), (97, (.goto 9, 3)), (100, (.aload_n 0, 1)), (101, (.getfield 102, 3)), (104, (.iload_n 1, 1)), (105, (.iaload, 1)), (106, (.ireturn, 1))]
def fX8_of : List (Nat × (Nat × Nat)) := [(180, (7, 39)), (129, (7, 57)), (126, (7, 56)), (117, (7, 53)), (120, (7, 54)), (123, (7, 55)), (102, (7, 46))]
def qX8_of : List (Nat × (Int32 ⊕ Int64)) := []
noncomputable def lX8_of : List (Nat × (Nat × (Option Nat × pFN))) := []
noncomputable def kX8_of : pFN := pm_met shM (some 7) tX8_of fX8_of qX8_of lX8_of 3 1
def mX8_of : Room := { frames := 0, cells := 0, slots := 0, locals := 0 }
set_option maxRecDepth 100000 in
theorem tX8_of_ok : ∀ q ∈ tX8_of, decode cX8_of q.1 = .ok q.2 ∧ pm_tok q.1 q.2.1 q.2.2 = true := by decide +kernel
set_option maxRecDepth 100000 in
theorem fX8_of_ok : ∀ q ∈ fX8_of, pm_Fok wsX8_of yX8_of.cls q.1 q.2.1 q.2.2 := List.forall_mem_cons.mpr ⟨⟨(RX8, TX8, 61), rfl, by decide, by decide +kernel, fun w h => List.mem_cons_of_mem _ (List.mem_append_right _ h)⟩, List.forall_mem_cons.mpr ⟨⟨(RX8, TX8, 61), rfl, by decide, by decide +kernel, fun w h => List.mem_cons_of_mem _ (List.mem_append_right _ h)⟩, List.forall_mem_cons.mpr ⟨⟨(RX8, TX8, 61), rfl, by decide, by decide +kernel, fun w h => List.mem_cons_of_mem _ (List.mem_append_right _ h)⟩, List.forall_mem_cons.mpr ⟨⟨(RX8, TX8, 61), rfl, by decide, by decide +kernel, fun w h => List.mem_cons_of_mem _ (List.mem_append_right _ h)⟩, List.forall_mem_cons.mpr ⟨⟨(RX8, TX8, 61), rfl, by decide, by decide +kernel, fun w h => List.mem_cons_of_mem _ (List.mem_append_right _ h)⟩, List.forall_mem_cons.mpr ⟨⟨(RX8, TX8, 61), rfl, by decide, by decide +kernel, fun w h => List.mem_cons_of_mem _ (List.mem_append_right _ h)⟩, List.forall_mem_cons.mpr ⟨⟨(RX8, TX8, 61), rfl, by decide, by decide +kernel, fun w h => List.mem_cons_of_mem _ (List.mem_append_right _ h)⟩, fun _ h => absurd h List.not_mem_nil⟩⟩⟩⟩⟩⟩⟩
set_option maxRecDepth 100000 in
theorem qX8_of_ok : ∀ q ∈ qX8_of, pm_Kok wsX8_of yX8_of.cls q.1 q.2 := fun _ h => absurd h List.not_mem_nil
set_option maxRecDepth 100000 in
theorem conX8_of (l : Launch) : pm_Con l yX8_of wsX8_of mX8_of shM 44 kX8_of := pm_met_con (cc := cX8_of) (by decide +kernel) rfl shM_N tX8_of_ok fX8_of_ok qX8_of_ok (fun _ h => absurd h List.not_mem_nil)
end
section
def tX8_conflicts : List (Nat × (Instr × Nat)) := [(0, (.aload_n 0, 1)), (1, (.getfield 177, 3)), (4, (.ireturn, 1))]
def fX8_conflicts : List (Nat × (Nat × Nat)) := [(177, (7, 47))]
def qX8_conflicts : List (Nat × (Int32 ⊕ Int64)) := []
noncomputable def lX8_conflicts : List (Nat × (Nat × (Option Nat × pFN))) := []
noncomputable def kX8_conflicts : pFN := pm_met shM (some 7) tX8_conflicts fX8_conflicts qX8_conflicts lX8_conflicts 1 1
def mX8_conflicts : Room := { frames := 0, cells := 0, slots := 0, locals := 0 }
set_option maxRecDepth 100000 in
theorem tX8_conflicts_ok : ∀ q ∈ tX8_conflicts, decode cX8_conflicts q.1 = .ok q.2 ∧ pm_tok q.1 q.2.1 q.2.2 = true := by decide +kernel
set_option maxRecDepth 100000 in
theorem fX8_conflicts_ok : ∀ q ∈ fX8_conflicts, pm_Fok wsX8_conflicts yX8_conflicts.cls q.1 q.2.1 q.2.2 := List.forall_mem_cons.mpr ⟨⟨(RX8, TX8, 61), rfl, by decide, by decide +kernel, fun w h => List.mem_cons_of_mem _ (List.mem_append_right _ h)⟩, fun _ h => absurd h List.not_mem_nil⟩
set_option maxRecDepth 100000 in
theorem qX8_conflicts_ok : ∀ q ∈ qX8_conflicts, pm_Kok wsX8_conflicts yX8_conflicts.cls q.1 q.2 := fun _ h => absurd h List.not_mem_nil
set_option maxRecDepth 100000 in
theorem conX8_conflicts (l : Launch) : pm_Con l yX8_conflicts wsX8_conflicts mX8_conflicts shM 44 kX8_conflicts := pm_met_con (cc := cX8_conflicts) (by decide +kernel) rfl shM_N tX8_conflicts_ok fX8_conflicts_ok qX8_conflicts_ok (fun _ h => absurd h List.not_mem_nil)

def tX8_conflict : List (Nat × (Instr × Nat)) := [(0, (.iload_n 1, 1)), (1, (.ifCond .lt 27, 3)), (4, (.iload_n 1, 1)), (5, (.aload_n 0, 1)), (6, (.getfield 177, 3)), (9, (.if_icmp .ge 19, 3)), (12, (.iload_n 1, 1)), (13, (.sipush 200, 3)), (16, (.if_icmp .ge 12, 3)), (19, (.iload_n 2, 1)), (20, (.ifCond .lt 8, 3)), (23, (.iload_n 2, 1)), (24, (.iconst 1, 1)), (25, (.if_icmp .le 6, 3)), (28, (.bipush (-2), 2)), (30, (.ireturn, 1)), (31, (.iload_n 2, 1)), (32, (.ifCond .ne 12, 3)), (35, (.aload_n 0, 1)), (36, (.getfield 105, 3)), (39, (.iload_n 1, 1)), (40, (.iaload, 1)), (41, (.goto 9, 3)), (44, (.aload_n 0, 1)), (45, (.getfield 108, 3)), (48, (.iload_n 1, 1)), (49, (.iaload, 1)), (50, (.ireturn, 1))]
def fX8_conflict : List (Nat × (Nat × Nat)) := [(177, (7, 47)), (105, (7, 48)), (108, (7, 49))]
def qX8_conflict : List (Nat × (Int32 ⊕ Int64)) := []
noncomputable def lX8_conflict : List (Nat × (Nat × (Option Nat × pFN))) := []
noncomputable def kX8_conflict : pFN := pm_met shM (some 7) tX8_conflict fX8_conflict qX8_conflict lX8_conflict 3 1
def mX8_conflict : Room := { frames := 0, cells := 0, slots := 0, locals := 0 }
set_option maxRecDepth 100000 in
theorem tX8_conflict_ok : ∀ q ∈ tX8_conflict, decode cX8_conflict q.1 = .ok q.2 ∧ pm_tok q.1 q.2.1 q.2.2 = true := by decide +kernel
set_option maxRecDepth 100000 in
theorem fX8_conflict_ok : ∀ q ∈ fX8_conflict, pm_Fok wsX8_conflict yX8_conflict.cls q.1 q.2.1 q.2.2 := List.forall_mem_cons.mpr ⟨⟨(RX8, TX8, 61), rfl, by decide, by decide +kernel, fun w h => List.mem_cons_of_mem _ (List.mem_append_right _ h)⟩, List.forall_mem_cons.mpr ⟨⟨(RX8, TX8, 61), rfl, by decide, by decide +kernel, fun w h => List.mem_cons_of_mem _ (List.mem_append_right _ h)⟩, List.forall_mem_cons.mpr ⟨⟨(RX8, TX8, 61), rfl, by decide, by decide +kernel, fun w h => List.mem_cons_of_mem _ (List.mem_append_right _ h)⟩, fun _ h => absurd h List.not_mem_nil⟩⟩⟩
set_option maxRecDepth 100000 in
theorem qX8_conflict_ok : ∀ q ∈ qX8_conflict, pm_Kok wsX8_conflict yX8_conflict.cls q.1 q.2 := fun _ h => absurd h List.not_mem_nil
set_option maxRecDepth 100000 in
theorem conX8_conflict (l : Launch) : pm_Con l yX8_conflict wsX8_conflict mX8_conflict shM 44 kX8_conflict := pm_met_con (cc := cX8_conflict) (by decide +kernel) rfl shM_N tX8_conflict_ok fX8_conflict_ok qX8_conflict_ok (fun _ h => absurd h List.not_mem_nil)

def tX8_told : List (Nat × (Instr × Nat)) := [(0, (.iload_n 1, 1)), (1, (.tableswitch 95 0 7 #[47, 52, 65, 70, 75, 80, 85, 90], 47)), (48, (.aload_n 0, 1)), (49, (.getfield 183, 3)), (52, (.ireturn, 1)), (53, (.aload_n 0, 1)), (54, (.getfield 186, 3)), (57, (.ifCond .eq 7, 3)), (60, (.iconst 1, 1)), (61, (.goto 4, 3)), (64, (.iconst 0, 1)), (65, (.ireturn, 1)), (66, (.aload_n 0, 1)), (67, (.getfield 189, 3)), (70, (.ireturn, 1)), (71, (.aload_n 0, 1)), (72, (.getfield 192, 3)), (75, (.ireturn, 1)), (76, (.aload_n 0, 1)), (77, (.getfield 195, 3)), (80, (.ireturn, 1)), (81, (.aload_n 0, 1)), (82, (.getfield 174, 3)), (85, (.ireturn, 1)), (86, (.aload_n 0, 1)), (87, (.getfield 257, 3)), (90, (.ireturn, 1)), (91, (.aload_n 0, 1)), (92, (.getfield 180, 3)), (95, (.ireturn, 1)), (96, (.iconst (-1), 1)), (97, (.ireturn, 1))]
def fX8_told : List (Nat × (Nat × Nat)) := [(183, (7, 40)), (186, (7, 41)), (189, (7, 42)), (192, (7, 43)), (195, (7, 44)), (174, (7, 22)), (257, (7, 45)), (180, (7, 39))]
def qX8_told : List (Nat × (Int32 ⊕ Int64)) := []
noncomputable def lX8_told : List (Nat × (Nat × (Option Nat × pFN))) := []
noncomputable def kX8_told : pFN := pm_met shM (some 7) tX8_told fX8_told qX8_told lX8_told 2 1
def mX8_told : Room := { frames := 0, cells := 0, slots := 0, locals := 0 }
set_option maxRecDepth 100000 in
theorem tX8_told_ok : ∀ q ∈ tX8_told, decode cX8_told q.1 = .ok q.2 ∧ pm_tok q.1 q.2.1 q.2.2 = true := by decide +kernel
set_option maxRecDepth 100000 in
theorem fX8_told_ok : ∀ q ∈ fX8_told, pm_Fok wsX8_told yX8_told.cls q.1 q.2.1 q.2.2 := List.forall_mem_cons.mpr ⟨⟨(RX8, TX8, 61), rfl, by decide, by decide +kernel, fun w h => List.mem_cons_of_mem _ (List.mem_append_right _ h)⟩, List.forall_mem_cons.mpr ⟨⟨(RX8, TX8, 61), rfl, by decide, by decide +kernel, fun w h => List.mem_cons_of_mem _ (List.mem_append_right _ h)⟩, List.forall_mem_cons.mpr ⟨⟨(RX8, TX8, 61), rfl, by decide, by decide +kernel, fun w h => List.mem_cons_of_mem _ (List.mem_append_right _ h)⟩, List.forall_mem_cons.mpr ⟨⟨(RX8, TX8, 61), rfl, by decide, by decide +kernel, fun w h => List.mem_cons_of_mem _ (List.mem_append_right _ h)⟩, List.forall_mem_cons.mpr ⟨⟨(RX8, TX8, 61), rfl, by decide, by decide +kernel, fun w h => List.mem_cons_of_mem _ (List.mem_append_right _ h)⟩, List.forall_mem_cons.mpr ⟨⟨(RX8, TX8, 61), rfl, by decide, by decide +kernel, fun w h => List.mem_cons_of_mem _ (List.mem_append_right _ h)⟩, List.forall_mem_cons.mpr ⟨⟨(RX8, TX8, 61), rfl, by decide, by decide +kernel, fun w h => List.mem_cons_of_mem _ (List.mem_append_right _ h)⟩, List.forall_mem_cons.mpr ⟨⟨(RX8, TX8, 61), rfl, by decide, by decide +kernel, fun w h => List.mem_cons_of_mem _ (List.mem_append_right _ h)⟩, fun _ h => absurd h List.not_mem_nil⟩⟩⟩⟩⟩⟩⟩⟩
set_option maxRecDepth 100000 in
theorem qX8_told_ok : ∀ q ∈ qX8_told, pm_Kok wsX8_told yX8_told.cls q.1 q.2 := fun _ h => absurd h List.not_mem_nil
set_option maxRecDepth 100000 in
theorem conX8_told (l : Launch) : pm_Con l yX8_told wsX8_told mX8_told shM 44 kX8_told := pm_met_con (cc := cX8_told) (by decide +kernel) rfl shM_N tX8_told_ok fX8_told_ok qX8_told_ok (fun _ h => absurd h List.not_mem_nil)
end
section
/-! ===== walking over the pure machine: pR post pc L st σ: from there, with the locals of L held, the code comes to an answer with post ===== -/
def pm_has (ls L : pLS) : Prop := ∀ q ∈ L, pm_lk ls q.1 = some q.2
def pR (sh : pSH) (t : List (Nat × (Instr × Nat))) (f : List (Nat × (Nat × Nat))) (q : List (Nat × (Int32 ⊕ Int64))) (cl : List (Nat × (Nat × (Option Nat × pFN)))) (nL rt : Nat) (post : pRT → Prop) (pc : Nat) (L : pLS) (st : List pSV) (σ : pST) : Prop := ∀ ls : pLS, pm_has ls L → ∃ n x, pm_code sh t f q cl nL rt n pc ls st σ = some x ∧ post x
def pm_f1 (k : Nat) (q : Nat × pSV) : Bool := !(q.1 == k) && !(q.1 + 1 == k && pm_w q.2 == 2)
def pm_f2 (k : Nat) (q : Nat × pSV) : Bool := !(q.1 == k) && (!(q.1 == k + 1) && !(q.1 + 1 == k && pm_w q.2 == 2))
theorem pm_lk_filter {ls : pLS} {P : Nat × pSV → Bool} {k : Nat} {v : pSV} (h : pm_lk ls k = some v) (hp : P (k, v) = true) : pm_lk (ls.filter P) k = some v := by
  unfold pm_lk at h ⊢
  induction ls with
  | nil => cases h
  | cons a l ih =>
    rw [List.find?_cons] at h
    by_cases ha : (a.1 == k) = true
    · rw [ha] at h
      have e2 : a.2 = v := by simpa using h
      have e1 : a.1 = k := by simpa using ha
      have ea : a = (k, v) := by rw [← e1, ← e2]
      rw [List.filter_cons, ea, hp]
      simp
    · have ha' : (a.1 == k) = false := by simpa using ha
      rw [ha'] at h
      rw [List.filter_cons]
      by_cases hpa : P a = true
      · rw [if_pos hpa, List.find?_cons, ha']
        exact ih h
      · rw [if_neg hpa]
        exact ih h
theorem pm_has_s1 {ls L L' : pLS} {k : Nat} {v : pSV} (h : pm_has ls L) (hL : (k, v) :: L.filter (pm_f1 k) = L') : pm_has (pm_s1 ls k v) L' := by
  subst hL
  intro q hq
  rcases List.mem_cons.mp hq with rfl | hq
  · simp [pm_lk, pm_s1]
  · obtain ⟨h1, h2⟩ := List.mem_filter.mp hq
    have h3 := h q h1
    have hne : (k == q.1) = false := by
      simp only [pm_f1, Bool.and_eq_true, Bool.not_eq_true', beq_eq_false_iff_ne] at h2
      simp only [beq_eq_false_iff_ne]
      exact fun e => h2.1 e.symm
    have h4 : pm_lk (ls.filter (pm_f1 k)) q.1 = some q.2 := pm_lk_filter h3 h2
    show pm_lk ((k, v) :: ls.filter (pm_f1 k)) q.1 = some q.2
    unfold pm_lk at h4 ⊢
    rw [List.find?_cons, hne]
    exact h4
theorem pm_has_s2 {ls L L' : pLS} {k : Nat} {v : pSV} (h : pm_has ls L) (hL : (k, v) :: L.filter (pm_f2 k) = L') : pm_has (pm_s2 ls k v) L' := by
  subst hL
  intro q hq
  rcases List.mem_cons.mp hq with rfl | hq
  · simp [pm_lk, pm_s2]
  · obtain ⟨h1, h2⟩ := List.mem_filter.mp hq
    have h3 := h q h1
    have hne : (k == q.1) = false := by
      simp only [pm_f2, Bool.and_eq_true, Bool.not_eq_true', beq_eq_false_iff_ne] at h2
      simp only [beq_eq_false_iff_ne]
      exact fun e => h2.1 e.symm
    have h4 : pm_lk (ls.filter (pm_f2 k)) q.1 = some q.2 := pm_lk_filter h3 h2
    show pm_lk ((k, v) :: ls.filter (pm_f2 k)) q.1 = some q.2
    unfold pm_lk at h4 ⊢
    rw [List.find?_cons, hne]
    exact h4
theorem pn_ldc {sh : pSH} {fld : Nat → Option (Nat × Nat)} {cst : Nat → Option (Int32 ⊕ Int64)} {cal : pCL} {nL rt : Nat} {k : Nat} {pc : Nat} {ls : pLS} {st : List pSV} {σ : pST} : pm_ins sh fld cst cal nL rt (.ldc k) pc ls st σ = pm_ldc (cst k) (pc + 2) ls st σ := rfl
theorem pn_ldcw {sh : pSH} {fld : Nat → Option (Nat × Nat)} {cst : Nat → Option (Int32 ⊕ Int64)} {cal : pCL} {nL rt : Nat} {k : Nat} {pc : Nat} {ls : pLS} {st : List pSV} {σ : pST} : pm_ins sh fld cst cal nL rt (.ldc_w k) pc ls st σ = pm_ldc (cst k) (pc + 3) ls st σ := rfl
theorem pn_ldc2 {sh : pSH} {fld : Nat → Option (Nat × Nat)} {cst : Nat → Option (Int32 ⊕ Int64)} {cal : pCL} {nL rt : Nat} {k : Nat} {pc : Nat} {ls : pLS} {st : List pSV} {σ : pST} : pm_ins sh fld cst cal nL rt (.ldc2_w k) pc ls st σ = pm_ldc2 (cst k) (pc + 3) ls st σ := rfl
theorem pn_iload_n {sh : pSH} {fld : Nat → Option (Nat × Nat)} {cst : Nat → Option (Int32 ⊕ Int64)} {cal : pCL} {nL rt : Nat} {k : Fin 4} {pc : Nat} {ls : pLS} {st : List pSV} {σ : pST} : pm_ins sh fld cst cal nL rt (.iload_n k) pc ls st σ = pm_ldi k (pc + 1) ls st σ := rfl
theorem pn_iload {sh : pSH} {fld : Nat → Option (Nat × Nat)} {cst : Nat → Option (Int32 ⊕ Int64)} {cal : pCL} {nL rt : Nat} {k : Nat} {pc : Nat} {ls : pLS} {st : List pSV} {σ : pST} : pm_ins sh fld cst cal nL rt (.iload k) pc ls st σ = pm_ldi k (pc + 2) ls st σ := rfl
theorem pn_lload_n {sh : pSH} {fld : Nat → Option (Nat × Nat)} {cst : Nat → Option (Int32 ⊕ Int64)} {cal : pCL} {nL rt : Nat} {k : Fin 4} {pc : Nat} {ls : pLS} {st : List pSV} {σ : pST} : pm_ins sh fld cst cal nL rt (.lload_n k) pc ls st σ = pm_ldl k (pc + 1) ls st σ := rfl
theorem pn_lload {sh : pSH} {fld : Nat → Option (Nat × Nat)} {cst : Nat → Option (Int32 ⊕ Int64)} {cal : pCL} {nL rt : Nat} {k : Nat} {pc : Nat} {ls : pLS} {st : List pSV} {σ : pST} : pm_ins sh fld cst cal nL rt (.lload k) pc ls st σ = pm_ldl k (pc + 2) ls st σ := rfl
theorem pn_aload_n {sh : pSH} {fld : Nat → Option (Nat × Nat)} {cst : Nat → Option (Int32 ⊕ Int64)} {cal : pCL} {nL rt : Nat} {k : Fin 4} {pc : Nat} {ls : pLS} {st : List pSV} {σ : pST} : pm_ins sh fld cst cal nL rt (.aload_n k) pc ls st σ = pm_lda k (pc + 1) ls st σ := rfl
theorem pn_aload {sh : pSH} {fld : Nat → Option (Nat × Nat)} {cst : Nat → Option (Int32 ⊕ Int64)} {cal : pCL} {nL rt : Nat} {k : Nat} {pc : Nat} {ls : pLS} {st : List pSV} {σ : pST} : pm_ins sh fld cst cal nL rt (.aload k) pc ls st σ = pm_lda k (pc + 2) ls st σ := rfl
theorem pn_iinc {sh : pSH} {fld : Nat → Option (Nat × Nat)} {cst : Nat → Option (Int32 ⊕ Int64)} {cal : pCL} {nL rt : Nat} {k : Nat} {n : Int} {pc : Nat} {ls : pLS} {st : List pSV} {σ : pST} : pm_ins sh fld cst cal nL rt (.iinc k n) pc ls st σ = pm_inc nL k n (pc + 3) ls st σ := rfl
theorem pn_goto {sh : pSH} {fld : Nat → Option (Nat × Nat)} {cst : Nat → Option (Int32 ⊕ Int64)} {cal : pCL} {nL rt : Nat} {off : Int} {pc : Nat} {ls : pLS} {st : List pSV} {σ : pST} : pm_ins sh fld cst cal nL rt (.goto off) pc ls st σ = pm_j pc off ls st σ := rfl
theorem pn_if_eq {sh : pSH} {fld : Nat → Option (Nat × Nat)} {cst : Nat → Option (Int32 ⊕ Int64)} {cal : pCL} {nL rt : Nat} {off : Int} {pc : Nat} {ls : pLS} {st : List pSV} {σ : pST} : pm_ins sh fld cst cal nL rt (.ifCond .eq off) pc ls st σ = pm_if (fun x => decide (x = 0)) off pc ls st σ := rfl
theorem pn_if_ne {sh : pSH} {fld : Nat → Option (Nat × Nat)} {cst : Nat → Option (Int32 ⊕ Int64)} {cal : pCL} {nL rt : Nat} {off : Int} {pc : Nat} {ls : pLS} {st : List pSV} {σ : pST} : pm_ins sh fld cst cal nL rt (.ifCond .ne off) pc ls st σ = pm_if (fun x => decide (¬ x = 0)) off pc ls st σ := rfl
theorem pn_if_lt {sh : pSH} {fld : Nat → Option (Nat × Nat)} {cst : Nat → Option (Int32 ⊕ Int64)} {cal : pCL} {nL rt : Nat} {off : Int} {pc : Nat} {ls : pLS} {st : List pSV} {σ : pST} : pm_ins sh fld cst cal nL rt (.ifCond .lt off) pc ls st σ = pm_if (fun x => decide (x < 0)) off pc ls st σ := rfl
theorem pn_if_ge {sh : pSH} {fld : Nat → Option (Nat × Nat)} {cst : Nat → Option (Int32 ⊕ Int64)} {cal : pCL} {nL rt : Nat} {off : Int} {pc : Nat} {ls : pLS} {st : List pSV} {σ : pST} : pm_ins sh fld cst cal nL rt (.ifCond .ge off) pc ls st σ = pm_if (fun x => decide (0 ≤ x)) off pc ls st σ := rfl
theorem pn_if_gt {sh : pSH} {fld : Nat → Option (Nat × Nat)} {cst : Nat → Option (Int32 ⊕ Int64)} {cal : pCL} {nL rt : Nat} {off : Int} {pc : Nat} {ls : pLS} {st : List pSV} {σ : pST} : pm_ins sh fld cst cal nL rt (.ifCond .gt off) pc ls st σ = pm_if (fun x => decide (0 < x)) off pc ls st σ := rfl
theorem pn_if_le {sh : pSH} {fld : Nat → Option (Nat × Nat)} {cst : Nat → Option (Int32 ⊕ Int64)} {cal : pCL} {nL rt : Nat} {off : Int} {pc : Nat} {ls : pLS} {st : List pSV} {σ : pST} : pm_ins sh fld cst cal nL rt (.ifCond .le off) pc ls st σ = pm_if (fun x => decide (x ≤ 0)) off pc ls st σ := rfl
theorem pn_ic_eq {sh : pSH} {fld : Nat → Option (Nat × Nat)} {cst : Nat → Option (Int32 ⊕ Int64)} {cal : pCL} {nL rt : Nat} {off : Int} {pc : Nat} {ls : pLS} {st : List pSV} {σ : pST} : pm_ins sh fld cst cal nL rt (.if_icmp .eq off) pc ls st σ = pm_ic (fun x y => decide (x = y)) off pc ls st σ := rfl
theorem pn_ic_ne {sh : pSH} {fld : Nat → Option (Nat × Nat)} {cst : Nat → Option (Int32 ⊕ Int64)} {cal : pCL} {nL rt : Nat} {off : Int} {pc : Nat} {ls : pLS} {st : List pSV} {σ : pST} : pm_ins sh fld cst cal nL rt (.if_icmp .ne off) pc ls st σ = pm_ic (fun x y => decide (¬ x = y)) off pc ls st σ := rfl
theorem pn_ic_lt {sh : pSH} {fld : Nat → Option (Nat × Nat)} {cst : Nat → Option (Int32 ⊕ Int64)} {cal : pCL} {nL rt : Nat} {off : Int} {pc : Nat} {ls : pLS} {st : List pSV} {σ : pST} : pm_ins sh fld cst cal nL rt (.if_icmp .lt off) pc ls st σ = pm_ic (fun x y => decide (x < y)) off pc ls st σ := rfl
theorem pn_ic_ge {sh : pSH} {fld : Nat → Option (Nat × Nat)} {cst : Nat → Option (Int32 ⊕ Int64)} {cal : pCL} {nL rt : Nat} {off : Int} {pc : Nat} {ls : pLS} {st : List pSV} {σ : pST} : pm_ins sh fld cst cal nL rt (.if_icmp .ge off) pc ls st σ = pm_ic (fun x y => decide (y ≤ x)) off pc ls st σ := rfl
theorem pn_ic_gt {sh : pSH} {fld : Nat → Option (Nat × Nat)} {cst : Nat → Option (Int32 ⊕ Int64)} {cal : pCL} {nL rt : Nat} {off : Int} {pc : Nat} {ls : pLS} {st : List pSV} {σ : pST} : pm_ins sh fld cst cal nL rt (.if_icmp .gt off) pc ls st σ = pm_ic (fun x y => decide (y < x)) off pc ls st σ := rfl
theorem pn_ic_le {sh : pSH} {fld : Nat → Option (Nat × Nat)} {cst : Nat → Option (Int32 ⊕ Int64)} {cal : pCL} {nL rt : Nat} {off : Int} {pc : Nat} {ls : pLS} {st : List pSV} {σ : pST} : pm_ins sh fld cst cal nL rt (.if_icmp .le off) pc ls st σ = pm_ic (fun x y => decide (x ≤ y)) off pc ls st σ := rfl
theorem pn_tsw {sh : pSH} {fld : Nat → Option (Nat × Nat)} {cst : Nat → Option (Int32 ⊕ Int64)} {cal : pCL} {nL rt : Nat} {d lo hi : Int} {o : Array Int} {pc : Nat} {ls : pLS} {st : List pSV} {σ : pST} : pm_ins sh fld cst cal nL rt (.tableswitch d lo hi o) pc ls st σ = pm_tsw d lo hi o pc ls st σ := rfl
theorem pn_lsw {sh : pSH} {fld : Nat → Option (Nat × Nat)} {cst : Nat → Option (Int32 ⊕ Int64)} {cal : pCL} {nL rt : Nat} {d : Int} {ps : Array (Int × Int)} {pc : Nat} {ls : pLS} {st : List pSV} {σ : pST} : pm_ins sh fld cst cal nL rt (.lookupswitch d ps) pc ls st σ = pm_lsw d ps pc ls st σ := rfl
theorem pn_gf {sh : pSH} {fld : Nat → Option (Nat × Nat)} {cst : Nat → Option (Int32 ⊕ Int64)} {cal : pCL} {nL rt : Nat} {k : Nat} {pc : Nat} {ls : pLS} {st : List pSV} {σ : pST} : pm_ins sh fld cst cal nL rt (.getfield k) pc ls st σ = pm_gf sh (fld k) (pc + 3) ls st σ := rfl
theorem pn_pf {sh : pSH} {fld : Nat → Option (Nat × Nat)} {cst : Nat → Option (Int32 ⊕ Int64)} {cal : pCL} {nL rt : Nat} {k : Nat} {pc : Nat} {ls : pLS} {st : List pSV} {σ : pST} : pm_ins sh fld cst cal nL rt (.putfield k) pc ls st σ = pm_pf sh (fld k) (pc + 3) ls st σ := rfl
theorem pn_ial {sh : pSH} {fld : Nat → Option (Nat × Nat)} {cst : Nat → Option (Int32 ⊕ Int64)} {cal : pCL} {nL rt : Nat}  {pc : Nat} {ls : pLS} {st : List pSV} {σ : pST} : pm_ins sh fld cst cal nL rt (.iaload) pc ls st σ = pm_ial sh (pc + 1) ls st σ := rfl
theorem pn_zal {sh : pSH} {fld : Nat → Option (Nat × Nat)} {cst : Nat → Option (Int32 ⊕ Int64)} {cal : pCL} {nL rt : Nat}  {pc : Nat} {ls : pLS} {st : List pSV} {σ : pST} : pm_ins sh fld cst cal nL rt (.baload) pc ls st σ = pm_zal sh (pc + 1) ls st σ := rfl
theorem pn_lal {sh : pSH} {fld : Nat → Option (Nat × Nat)} {cst : Nat → Option (Int32 ⊕ Int64)} {cal : pCL} {nL rt : Nat}  {pc : Nat} {ls : pLS} {st : List pSV} {σ : pST} : pm_ins sh fld cst cal nL rt (.laload) pc ls st σ = pm_lal sh (pc + 1) ls st σ := rfl
theorem pn_aal {sh : pSH} {fld : Nat → Option (Nat × Nat)} {cst : Nat → Option (Int32 ⊕ Int64)} {cal : pCL} {nL rt : Nat}  {pc : Nat} {ls : pLS} {st : List pSV} {σ : pST} : pm_ins sh fld cst cal nL rt (.aaload) pc ls st σ = pm_aal sh (pc + 1) ls st σ := rfl
theorem pn_ias {sh : pSH} {fld : Nat → Option (Nat × Nat)} {cst : Nat → Option (Int32 ⊕ Int64)} {cal : pCL} {nL rt : Nat}  {pc : Nat} {ls : pLS} {st : List pSV} {σ : pST} : pm_ins sh fld cst cal nL rt (.iastore) pc ls st σ = pm_ias sh (pc + 1) ls st σ := rfl
theorem pn_zas {sh : pSH} {fld : Nat → Option (Nat × Nat)} {cst : Nat → Option (Int32 ⊕ Int64)} {cal : pCL} {nL rt : Nat}  {pc : Nat} {ls : pLS} {st : List pSV} {σ : pST} : pm_ins sh fld cst cal nL rt (.bastore) pc ls st σ = pm_zas sh (pc + 1) ls st σ := rfl
theorem pn_las {sh : pSH} {fld : Nat → Option (Nat × Nat)} {cst : Nat → Option (Int32 ⊕ Int64)} {cal : pCL} {nL rt : Nat}  {pc : Nat} {ls : pLS} {st : List pSV} {σ : pST} : pm_ins sh fld cst cal nL rt (.lastore) pc ls st σ = pm_las sh (pc + 1) ls st σ := rfl
theorem pn_al {sh : pSH} {fld : Nat → Option (Nat × Nat)} {cst : Nat → Option (Int32 ⊕ Int64)} {cal : pCL} {nL rt : Nat}  {pc : Nat} {ls : pLS} {st : List pSV} {σ : pST} : pm_ins sh fld cst cal nL rt (.arraylength) pc ls st σ = pm_al sh (pc + 1) ls st σ := rfl
theorem pn_callV {sh : pSH} {fld : Nat → Option (Nat × Nat)} {cst : Nat → Option (Int32 ⊕ Int64)} {cal : pCL} {nL rt : Nat} {k : Nat} {pc : Nat} {ls : pLS} {st : List pSV} {σ : pST} : pm_ins sh fld cst cal nL rt (.invokevirtual k) pc ls st σ = pm_call (cal k) false pc ls st σ := rfl
theorem pn_callS {sh : pSH} {fld : Nat → Option (Nat × Nat)} {cst : Nat → Option (Int32 ⊕ Int64)} {cal : pCL} {nL rt : Nat} {k : Nat} {pc : Nat} {ls : pLS} {st : List pSV} {σ : pST} : pm_ins sh fld cst cal nL rt (.invokestatic k) pc ls st σ = pm_call (cal k) true pc ls st σ := rfl
section PR
variable {sh : pSH} {t : List (Nat × (Instr × Nat))} {f : List (Nat × (Nat × Nat))} {q : List (Nat × (Int32 ⊕ Int64))} {cl : List (Nat × (Nat × (Option Nat × pFN)))} {nL rt : Nat} {post : pRT → Prop} {pc pc' : Nat} {L L' : pLS} {st r : List pSV} {σ : pST} {ln : Nat}
theorem pR_step {ins : Instr} {st' : List pSV} {σ' : pST} (ht : pm_tb t pc = some (ins, ln)) (h : ∀ ls, pm_has ls L → ∃ ls', pm_ins sh (pm_fb f) (pm_kb q) (pm_lb cl) nL rt ins pc ls st σ = some (.inl (pc', ls', st', σ')) ∧ pm_has ls' L') (K : pR sh t f q cl nL rt post pc' L' st' σ') : pR sh t f q cl nL rt post pc L st σ := by
  intro ls hl
  obtain ⟨ls', h1, h2⟩ := h ls hl
  obtain ⟨n, x, h3, h4⟩ := K ls' h2
  refine ⟨n + 1, x, ?_, h4⟩
  unfold pm_code pm_run
  rw [ht]
  simp only
  rw [h1]
  exact h3
theorem pR_end {ins : Instr} {x : pRT} (ht : pm_tb t pc = some (ins, ln)) (h : ∀ ls, pm_ins sh (pm_fb f) (pm_kb q) (pm_lb cl) nL rt ins pc ls st σ = some (.inr x)) (hp : post x) : pR sh t f q cl nL rt post pc L st σ := by
  intro ls hl
  refine ⟨1, x, ?_, hp⟩
  unfold pm_code pm_run
  rw [ht]
  simp only
  rw [h ls]
/-- fewer of the locals, in another order -/
theorem pR_sub (ks : List Nat) (hs : ks.filterMap (fun k => L[k]?) = L') (K : pR sh t f q cl nL rt post pc L' st σ) : pR sh t f q cl nL rt post pc L st σ := by
  intro ls hl
  refine K ls (fun a ha => ?_)
  rw [← hs] at ha
  obtain ⟨k, -, hk⟩ := List.mem_filterMap.mp ha
  exact hl a (List.mem_of_getElem? hk)
theorem pR_eq {st' : List pSV} {σ' : pST} (h1 : st = st') (h2 : σ = σ') (K : pR sh t f q cl nL rt post pc L st' σ') : pR sh t f q cl nL rt post pc L st σ := by rw [h1, h2]; exact K
theorem pR_topi {x y : Int32} (h : x = y) (K : pR sh t f q cl nL rt post pc L (.inl y :: r) σ) : pR sh t f q cl nL rt post pc L (.inl x :: r) σ := by rw [h]; exact K
theorem pR_topl {x y : Int64} (h : x = y) (K : pR sh t f q cl nL rt post pc L (.inr (.inl y) :: r) σ) : pR sh t f q cl nL rt post pc L (.inr (.inl x) :: r) σ := by rw [h]; exact K
theorem pR_post {post' : pRT → Prop} (h : ∀ x, post' x → post x) (K : pR sh t f q cl nL rt post' pc L st σ) : pR sh t f q cl nL rt post pc L st σ := fun ls hl => by
  obtain ⟨n, x, h1, h2⟩ := K ls hl
  exact ⟨n, x, h1, h x h2⟩
theorem pr_iconst {n : Int} {v : Int32} (ht : pm_tb t pc = some (.iconst n, ln)) (hv : Int32.ofInt n = v) (K : pR sh t f q cl nL rt post (pc + 1) L (.inl v :: st) σ) : pR sh t f q cl nL rt post pc L (st) σ := pR_step ht (fun ls hl => ⟨ls, by subst hv; rfl, hl⟩) K
theorem pr_bipush {n : Int} {v : Int32} (ht : pm_tb t pc = some (.bipush n, ln)) (hv : (Int8.ofInt n).toInt32 = v) (K : pR sh t f q cl nL rt post (pc + 2) L (.inl v :: st) σ) : pR sh t f q cl nL rt post pc L (st) σ := pR_step ht (fun ls hl => ⟨ls, by subst hv; rfl, hl⟩) K
theorem pr_sipush {n : Int} {v : Int32} (ht : pm_tb t pc = some (.sipush n, ln)) (hv : (Int16.ofInt n).toInt32 = v) (K : pR sh t f q cl nL rt post (pc + 3) L (.inl v :: st) σ) : pR sh t f q cl nL rt post pc L (st) σ := pR_step ht (fun ls hl => ⟨ls, by subst hv; rfl, hl⟩) K
theorem pr_lconst {n : Fin 2} {v : Int64} (ht : pm_tb t pc = some (.lconst n, ln)) (hv : Int64.ofNat (n : Nat) = v) (K : pR sh t f q cl nL rt post (pc + 1) L (.inr (.inl v) :: st) σ) : pR sh t f q cl nL rt post pc L (st) σ := pR_step ht (fun ls hl => ⟨ls, by subst hv; rfl, hl⟩) K
theorem pr_ldc {k : Nat} {v : Int32} (ht : pm_tb t pc = some (.ldc k, ln)) (hv : pm_kb q k = some (.inl v)) (K : pR sh t f q cl nL rt post (pc + 2) L (.inl v :: st) σ) : pR sh t f q cl nL rt post pc L (st) σ := pR_step ht (fun ls hl => ⟨ls, by rw [pn_ldc, hv]; rfl, hl⟩) K
theorem pr_ldcw {k : Nat} {v : Int32} (ht : pm_tb t pc = some (.ldc_w k, ln)) (hv : pm_kb q k = some (.inl v)) (K : pR sh t f q cl nL rt post (pc + 3) L (.inl v :: st) σ) : pR sh t f q cl nL rt post pc L (st) σ := pR_step ht (fun ls hl => ⟨ls, by rw [pn_ldcw, hv]; rfl, hl⟩) K
theorem pr_ldc2 {k : Nat} {v : Int64} (ht : pm_tb t pc = some (.ldc2_w k, ln)) (hv : pm_kb q k = some (.inr v)) (K : pR sh t f q cl nL rt post (pc + 3) L (.inr (.inl v) :: st) σ) : pR sh t f q cl nL rt post pc L (st) σ := pR_step ht (fun ls hl => ⟨ls, by rw [pn_ldc2, hv]; rfl, hl⟩) K
theorem pr_iload_n {k : Fin 4} {x : Int32} (ht : pm_tb t pc = some (.iload_n k, ln)) (i : Nat) (hk : L[i]? = some ((k : Nat), .inl x)) (K : pR sh t f q cl nL rt post (pc + 1) L (.inl x :: st) σ) : pR sh t f q cl nL rt post pc L (st) σ := pR_step ht (fun ls hl => ⟨ls, by rw [pn_iload_n]; unfold pm_ldi; rw [hl _ (List.mem_of_getElem? hk)], hl⟩) K
theorem pr_iload {k : Nat} {x : Int32} (ht : pm_tb t pc = some (.iload k, ln)) (i : Nat) (hk : L[i]? = some ((k : Nat), .inl x)) (K : pR sh t f q cl nL rt post (pc + 2) L (.inl x :: st) σ) : pR sh t f q cl nL rt post pc L (st) σ := pR_step ht (fun ls hl => ⟨ls, by rw [pn_iload]; unfold pm_ldi; rw [hl _ (List.mem_of_getElem? hk)], hl⟩) K
theorem pr_lload_n {k : Fin 4} {x : Int64} (ht : pm_tb t pc = some (.lload_n k, ln)) (i : Nat) (hk : L[i]? = some ((k : Nat), .inr (.inl x))) (K : pR sh t f q cl nL rt post (pc + 1) L (.inr (.inl x) :: st) σ) : pR sh t f q cl nL rt post pc L (st) σ := pR_step ht (fun ls hl => ⟨ls, by rw [pn_lload_n]; unfold pm_ldl; rw [hl _ (List.mem_of_getElem? hk)], hl⟩) K
theorem pr_lload {k : Nat} {x : Int64} (ht : pm_tb t pc = some (.lload k, ln)) (i : Nat) (hk : L[i]? = some ((k : Nat), .inr (.inl x))) (K : pR sh t f q cl nL rt post (pc + 2) L (.inr (.inl x) :: st) σ) : pR sh t f q cl nL rt post pc L (st) σ := pR_step ht (fun ls hl => ⟨ls, by rw [pn_lload]; unfold pm_ldl; rw [hl _ (List.mem_of_getElem? hk)], hl⟩) K
theorem pr_aload_n {k : Fin 4} {x : Nat} (ht : pm_tb t pc = some (.aload_n k, ln)) (i : Nat) (hk : L[i]? = some ((k : Nat), .inr (.inr x))) (K : pR sh t f q cl nL rt post (pc + 1) L (.inr (.inr x) :: st) σ) : pR sh t f q cl nL rt post pc L (st) σ := pR_step ht (fun ls hl => ⟨ls, by rw [pn_aload_n]; unfold pm_lda; rw [hl _ (List.mem_of_getElem? hk)], hl⟩) K
theorem pr_aload {k : Nat} {x : Nat} (ht : pm_tb t pc = some (.aload k, ln)) (i : Nat) (hk : L[i]? = some ((k : Nat), .inr (.inr x))) (K : pR sh t f q cl nL rt post (pc + 2) L (.inr (.inr x) :: st) σ) : pR sh t f q cl nL rt post pc L (st) σ := pR_step ht (fun ls hl => ⟨ls, by rw [pn_aload]; unfold pm_lda; rw [hl _ (List.mem_of_getElem? hk)], hl⟩) K
theorem pr_istore_n {k : Fin 4} {x : Int32} (ht : pm_tb t pc = some (.istore_n k, ln)) (hn : (k : Nat) < nL) (hL : ((k : Nat), .inl x) :: L.filter (pm_f1 k) = L') (K : pR sh t f q cl nL rt post (pc + 1) L' (r) σ) : pR sh t f q cl nL rt post pc L (.inl x :: r) σ := pR_step ht (fun ls hl => ⟨pm_s1 ls k (.inl x), if_pos hn, pm_has_s1 hl hL⟩) K
theorem pr_istore {k : Nat} {x : Int32} (ht : pm_tb t pc = some (.istore k, ln)) (hn : k < nL) (hL : ((k : Nat), .inl x) :: L.filter (pm_f1 k) = L') (K : pR sh t f q cl nL rt post (pc + 2) L' (r) σ) : pR sh t f q cl nL rt post pc L (.inl x :: r) σ := pR_step ht (fun ls hl => ⟨pm_s1 ls k (.inl x), if_pos hn, pm_has_s1 hl hL⟩) K
theorem pr_astore_n {k : Fin 4} {x : Nat} (ht : pm_tb t pc = some (.astore_n k, ln)) (hn : (k : Nat) < nL) (hL : ((k : Nat), .inr (.inr x)) :: L.filter (pm_f1 k) = L') (K : pR sh t f q cl nL rt post (pc + 1) L' (r) σ) : pR sh t f q cl nL rt post pc L (.inr (.inr x) :: r) σ := pR_step ht (fun ls hl => ⟨pm_s1 ls k (.inr (.inr x)), if_pos hn, pm_has_s1 hl hL⟩) K
theorem pr_astore {k : Nat} {x : Nat} (ht : pm_tb t pc = some (.astore k, ln)) (hn : k < nL) (hL : ((k : Nat), .inr (.inr x)) :: L.filter (pm_f1 k) = L') (K : pR sh t f q cl nL rt post (pc + 2) L' (r) σ) : pR sh t f q cl nL rt post pc L (.inr (.inr x) :: r) σ := pR_step ht (fun ls hl => ⟨pm_s1 ls k (.inr (.inr x)), if_pos hn, pm_has_s1 hl hL⟩) K
theorem pr_lstore {k : Nat} {x : Int64} (ht : pm_tb t pc = some (.lstore k, ln)) (hn : k + 1 < nL) (hL : ((k : Nat), .inr (.inl x)) :: L.filter (pm_f2 k) = L') (K : pR sh t f q cl nL rt post (pc + 2) L' (r) σ) : pR sh t f q cl nL rt post pc L (.inr (.inl x) :: r) σ := pR_step ht (fun ls hl => ⟨pm_s2 ls k (.inr (.inl x)), if_pos hn, pm_has_s2 hl hL⟩) K
theorem pr_iinc {k : Nat} {n : Int} {x v : Int32} (ht : pm_tb t pc = some (.iinc k n, ln)) (i : Nat) (hk : L[i]? = some (k, .inl x)) (hv : x + Int32.ofInt n = v) (hn : k < nL) (hL : (k, .inl v) :: L.filter (pm_f1 k) = L') (K : pR sh t f q cl nL rt post (pc + 3) L' (st) σ) : pR sh t f q cl nL rt post pc L (st) σ := pR_step ht (fun ls hl => ⟨pm_s1 ls k (.inl v), by rw [pn_iinc]; unfold pm_inc; rw [hl _ (List.mem_of_getElem? hk)]; subst hv; exact if_pos hn, pm_has_s1 hl hL⟩) K
theorem pr_iadd {x y v : Int32} (ht : pm_tb t pc = some (.iadd, ln)) (hv : x + y = v) (K : pR sh t f q cl nL rt post (pc + 1) L (.inl v :: r) σ) : pR sh t f q cl nL rt post pc L (.inl y :: .inl x :: r) σ := pR_step ht (fun ls hl => ⟨ls, by subst hv; rfl, hl⟩) K
theorem pr_isub {x y v : Int32} (ht : pm_tb t pc = some (.isub, ln)) (hv : x - y = v) (K : pR sh t f q cl nL rt post (pc + 1) L (.inl v :: r) σ) : pR sh t f q cl nL rt post pc L (.inl y :: .inl x :: r) σ := pR_step ht (fun ls hl => ⟨ls, by subst hv; rfl, hl⟩) K
theorem pr_imul {x y v : Int32} (ht : pm_tb t pc = some (.imul, ln)) (hv : x * y = v) (K : pR sh t f q cl nL rt post (pc + 1) L (.inl v :: r) σ) : pR sh t f q cl nL rt post pc L (.inl y :: .inl x :: r) σ := pR_step ht (fun ls hl => ⟨ls, by subst hv; rfl, hl⟩) K
theorem pr_iand {x y v : Int32} (ht : pm_tb t pc = some (.iand, ln)) (hv : x &&& y = v) (K : pR sh t f q cl nL rt post (pc + 1) L (.inl v :: r) σ) : pR sh t f q cl nL rt post pc L (.inl y :: .inl x :: r) σ := pR_step ht (fun ls hl => ⟨ls, by subst hv; rfl, hl⟩) K
theorem pr_ior {x y v : Int32} (ht : pm_tb t pc = some (.ior, ln)) (hv : x ||| y = v) (K : pR sh t f q cl nL rt post (pc + 1) L (.inl v :: r) σ) : pR sh t f q cl nL rt post pc L (.inl y :: .inl x :: r) σ := pR_step ht (fun ls hl => ⟨ls, by subst hv; rfl, hl⟩) K
theorem pr_ishl {x y v : Int32} (ht : pm_tb t pc = some (.ishl, ln)) (hv : x <<< (y &&& 31) = v) (K : pR sh t f q cl nL rt post (pc + 1) L (.inl v :: r) σ) : pR sh t f q cl nL rt post pc L (.inl y :: .inl x :: r) σ := pR_step ht (fun ls hl => ⟨ls, by subst hv; rfl, hl⟩) K
theorem pr_iushr {x y v : Int32} (ht : pm_tb t pc = some (.iushr, ln)) (hv : (x.toUInt32 >>> (y.toUInt32 &&& Int32.toUInt32 31)).toInt32 = v) (K : pR sh t f q cl nL rt post (pc + 1) L (.inl v :: r) σ) : pR sh t f q cl nL rt post pc L (.inl y :: .inl x :: r) σ := pR_step ht (fun ls hl => ⟨ls, by subst hv; rfl, hl⟩) K
theorem pr_ladd {x y v : Int64} (ht : pm_tb t pc = some (.ladd, ln)) (hv : x + y = v) (K : pR sh t f q cl nL rt post (pc + 1) L (.inr (.inl v) :: r) σ) : pR sh t f q cl nL rt post pc L (.inr (.inl y) :: .inr (.inl x) :: r) σ := pR_step ht (fun ls hl => ⟨ls, by subst hv; rfl, hl⟩) K
theorem pr_lsub {x y v : Int64} (ht : pm_tb t pc = some (.lsub, ln)) (hv : x - y = v) (K : pR sh t f q cl nL rt post (pc + 1) L (.inr (.inl v) :: r) σ) : pR sh t f q cl nL rt post pc L (.inr (.inl y) :: .inr (.inl x) :: r) σ := pR_step ht (fun ls hl => ⟨ls, by subst hv; rfl, hl⟩) K
theorem pr_lmul {x y v : Int64} (ht : pm_tb t pc = some (.lmul, ln)) (hv : x * y = v) (K : pR sh t f q cl nL rt post (pc + 1) L (.inr (.inl v) :: r) σ) : pR sh t f q cl nL rt post pc L (.inr (.inl y) :: .inr (.inl x) :: r) σ := pR_step ht (fun ls hl => ⟨ls, by subst hv; rfl, hl⟩) K
theorem pr_land {x y v : Int64} (ht : pm_tb t pc = some (.land, ln)) (hv : x &&& y = v) (K : pR sh t f q cl nL rt post (pc + 1) L (.inr (.inl v) :: r) σ) : pR sh t f q cl nL rt post pc L (.inr (.inl y) :: .inr (.inl x) :: r) σ := pR_step ht (fun ls hl => ⟨ls, by subst hv; rfl, hl⟩) K
theorem pr_lor {x y v : Int64} (ht : pm_tb t pc = some (.lor, ln)) (hv : x ||| y = v) (K : pR sh t f q cl nL rt post (pc + 1) L (.inr (.inl v) :: r) σ) : pR sh t f q cl nL rt post pc L (.inr (.inl y) :: .inr (.inl x) :: r) σ := pR_step ht (fun ls hl => ⟨ls, by subst hv; rfl, hl⟩) K
theorem pr_irem {x y v : Int32} (ht : pm_tb t pc = some (.irem, ln)) (hne : ¬ y = 0) (hv : x - x / y * y = v) (K : pR sh t f q cl nL rt post (pc + 1) L (.inl v :: r) σ) : pR sh t f q cl nL rt post pc L (.inl y :: .inl x :: r) σ := pR_step ht (fun ls hl => ⟨ls, by subst hv; exact if_neg hne, hl⟩) K
theorem pr_lrem {x y v : Int64} (ht : pm_tb t pc = some (.lrem, ln)) (hne : ¬ y = 0) (hv : x - x / y * y = v) (K : pR sh t f q cl nL rt post (pc + 1) L (.inr (.inl v) :: r) σ) : pR sh t f q cl nL rt post pc L (.inr (.inl y) :: .inr (.inl x) :: r) σ := pR_step ht (fun ls hl => ⟨ls, by subst hv; exact if_neg hne, hl⟩) K
theorem pr_lcmp {x y : Int64} (ht : pm_tb t pc = some (.lcmp, ln)) (K : pR sh t f q cl nL rt post (pc + 1) L (.inl (lg_cmp x y) :: r) σ) : pR sh t f q cl nL rt post pc L (.inr (.inl y) :: .inr (.inl x) :: r) σ := pR_step ht (fun ls hl => ⟨ls, rfl, hl⟩) K
theorem pr_lshl {y : Int32} {x v : Int64} (ht : pm_tb t pc = some (.lshl, ln)) (hv : x <<< (y.toInt64 &&& 63) = v) (K : pR sh t f q cl nL rt post (pc + 1) L (.inr (.inl v) :: r) σ) : pR sh t f q cl nL rt post pc L (.inl y :: .inr (.inl x) :: r) σ := pR_step ht (fun ls hl => ⟨ls, by subst hv; rfl, hl⟩) K
theorem pr_i2l {x : Int32} {v : Int64} (ht : pm_tb t pc = some (.i2l, ln)) (hv : x.toInt64 = v) (K : pR sh t f q cl nL rt post (pc + 1) L (.inr (.inl v) :: r) σ) : pR sh t f q cl nL rt post pc L (.inl x :: r) σ := pR_step ht (fun ls hl => ⟨ls, by subst hv; rfl, hl⟩) K
theorem pr_l2i {x : Int64} {v : Int32} (ht : pm_tb t pc = some (.l2i, ln)) (hv : x.toInt32 = v) (K : pR sh t f q cl nL rt post (pc + 1) L (.inl v :: r) σ) : pR sh t f q cl nL rt post pc L (.inr (.inl x) :: r) σ := pR_step ht (fun ls hl => ⟨ls, by subst hv; rfl, hl⟩) K
theorem pr_dup {v : pSV} (ht : pm_tb t pc = some (.dup, ln)) (hw : pm_w v = 1) (K : pR sh t f q cl nL rt post (pc + 1) L (v :: v :: r) σ) : pR sh t f q cl nL rt post pc L (v :: r) σ := pR_step ht (fun ls hl => ⟨ls, if_pos hw, hl⟩) K
theorem pr_pop {v : pSV} (ht : pm_tb t pc = some (.pop, ln)) (hw : pm_w v = 1) (K : pR sh t f q cl nL rt post (pc + 1) L (r) σ) : pR sh t f q cl nL rt post pc L (v :: r) σ := pR_step ht (fun ls hl => ⟨ls, if_pos hw, hl⟩) K
theorem pr_dup2 {v u : pSV} (ht : pm_tb t pc = some (.dup2, ln)) (hw : pm_w v = 1 ∧ pm_w u = 1) (K : pR sh t f q cl nL rt post (pc + 1) L (v :: u :: v :: u :: r) σ) : pR sh t f q cl nL rt post pc L (v :: u :: r) σ := pR_step ht (fun ls hl => ⟨ls, if_pos hw, hl⟩) K
theorem pr_goto {off : Int} (ht : pm_tb t pc = some (.goto off, ln)) (hj : (pc : Int) + off = (pc' : Int)) (K : pR sh t f q cl nL rt post (pc') L (st) σ) : pR sh t f q cl nL rt post pc L (st) σ := pR_step ht (fun ls hl => ⟨ls, by rw [pn_goto]; unfold pm_j; rw [hj, if_pos (Int.natCast_nonneg pc')]; rfl, hl⟩) K
theorem pr_if_eq {off : Int} {x : Int32} (ht : pm_tb t pc = some (.ifCond .eq off, ln)) (hj : (pc : Int) + off = (pc' : Int)) (K1 : x = 0 → pR sh t f q cl nL rt post pc' L r σ) (K2 : ¬ (x = 0) → pR sh t f q cl nL rt post (pc + 3) L r σ) : pR sh t f q cl nL rt post pc L (.inl x :: r) σ := by
  by_cases hc : x = 0
  · exact pR_step ht (fun ls hl => ⟨ls, by rw [pn_if_eq]; unfold pm_if; simp only; rw [if_pos (decide_eq_true hc)]; unfold pm_j; rw [hj, if_pos (Int.natCast_nonneg pc')]; rfl, hl⟩) (K1 hc)
  · exact pR_step ht (fun ls hl => ⟨ls, by rw [pn_if_eq]; unfold pm_if; simp only; rw [if_neg (fun z => hc (of_decide_eq_true z))], hl⟩) (K2 hc)
theorem pr_if_ne {off : Int} {x : Int32} (ht : pm_tb t pc = some (.ifCond .ne off, ln)) (hj : (pc : Int) + off = (pc' : Int)) (K1 : ¬ x = 0 → pR sh t f q cl nL rt post pc' L r σ) (K2 : ¬ (¬ x = 0) → pR sh t f q cl nL rt post (pc + 3) L r σ) : pR sh t f q cl nL rt post pc L (.inl x :: r) σ := by
  by_cases hc : ¬ x = 0
  · exact pR_step ht (fun ls hl => ⟨ls, by rw [pn_if_ne]; unfold pm_if; simp only; rw [if_pos (decide_eq_true hc)]; unfold pm_j; rw [hj, if_pos (Int.natCast_nonneg pc')]; rfl, hl⟩) (K1 hc)
  · exact pR_step ht (fun ls hl => ⟨ls, by rw [pn_if_ne]; unfold pm_if; simp only; rw [if_neg (fun z => hc (of_decide_eq_true z))], hl⟩) (K2 hc)
theorem pr_if_lt {off : Int} {x : Int32} (ht : pm_tb t pc = some (.ifCond .lt off, ln)) (hj : (pc : Int) + off = (pc' : Int)) (K1 : x < 0 → pR sh t f q cl nL rt post pc' L r σ) (K2 : ¬ (x < 0) → pR sh t f q cl nL rt post (pc + 3) L r σ) : pR sh t f q cl nL rt post pc L (.inl x :: r) σ := by
  by_cases hc : x < 0
  · exact pR_step ht (fun ls hl => ⟨ls, by rw [pn_if_lt]; unfold pm_if; simp only; rw [if_pos (decide_eq_true hc)]; unfold pm_j; rw [hj, if_pos (Int.natCast_nonneg pc')]; rfl, hl⟩) (K1 hc)
  · exact pR_step ht (fun ls hl => ⟨ls, by rw [pn_if_lt]; unfold pm_if; simp only; rw [if_neg (fun z => hc (of_decide_eq_true z))], hl⟩) (K2 hc)
theorem pr_if_ge {off : Int} {x : Int32} (ht : pm_tb t pc = some (.ifCond .ge off, ln)) (hj : (pc : Int) + off = (pc' : Int)) (K1 : 0 ≤ x → pR sh t f q cl nL rt post pc' L r σ) (K2 : ¬ (0 ≤ x) → pR sh t f q cl nL rt post (pc + 3) L r σ) : pR sh t f q cl nL rt post pc L (.inl x :: r) σ := by
  by_cases hc : 0 ≤ x
  · exact pR_step ht (fun ls hl => ⟨ls, by rw [pn_if_ge]; unfold pm_if; simp only; rw [if_pos (decide_eq_true hc)]; unfold pm_j; rw [hj, if_pos (Int.natCast_nonneg pc')]; rfl, hl⟩) (K1 hc)
  · exact pR_step ht (fun ls hl => ⟨ls, by rw [pn_if_ge]; unfold pm_if; simp only; rw [if_neg (fun z => hc (of_decide_eq_true z))], hl⟩) (K2 hc)
theorem pr_if_gt {off : Int} {x : Int32} (ht : pm_tb t pc = some (.ifCond .gt off, ln)) (hj : (pc : Int) + off = (pc' : Int)) (K1 : 0 < x → pR sh t f q cl nL rt post pc' L r σ) (K2 : ¬ (0 < x) → pR sh t f q cl nL rt post (pc + 3) L r σ) : pR sh t f q cl nL rt post pc L (.inl x :: r) σ := by
  by_cases hc : 0 < x
  · exact pR_step ht (fun ls hl => ⟨ls, by rw [pn_if_gt]; unfold pm_if; simp only; rw [if_pos (decide_eq_true hc)]; unfold pm_j; rw [hj, if_pos (Int.natCast_nonneg pc')]; rfl, hl⟩) (K1 hc)
  · exact pR_step ht (fun ls hl => ⟨ls, by rw [pn_if_gt]; unfold pm_if; simp only; rw [if_neg (fun z => hc (of_decide_eq_true z))], hl⟩) (K2 hc)
theorem pr_if_le {off : Int} {x : Int32} (ht : pm_tb t pc = some (.ifCond .le off, ln)) (hj : (pc : Int) + off = (pc' : Int)) (K1 : x ≤ 0 → pR sh t f q cl nL rt post pc' L r σ) (K2 : ¬ (x ≤ 0) → pR sh t f q cl nL rt post (pc + 3) L r σ) : pR sh t f q cl nL rt post pc L (.inl x :: r) σ := by
  by_cases hc : x ≤ 0
  · exact pR_step ht (fun ls hl => ⟨ls, by rw [pn_if_le]; unfold pm_if; simp only; rw [if_pos (decide_eq_true hc)]; unfold pm_j; rw [hj, if_pos (Int.natCast_nonneg pc')]; rfl, hl⟩) (K1 hc)
  · exact pR_step ht (fun ls hl => ⟨ls, by rw [pn_if_le]; unfold pm_if; simp only; rw [if_neg (fun z => hc (of_decide_eq_true z))], hl⟩) (K2 hc)
theorem pr_ic_eq {off : Int} {x y : Int32} (ht : pm_tb t pc = some (.if_icmp .eq off, ln)) (hj : (pc : Int) + off = (pc' : Int)) (K1 : x = y → pR sh t f q cl nL rt post pc' L r σ) (K2 : ¬ (x = y) → pR sh t f q cl nL rt post (pc + 3) L r σ) : pR sh t f q cl nL rt post pc L (.inl y :: .inl x :: r) σ := by
  by_cases hc : x = y
  · exact pR_step ht (fun ls hl => ⟨ls, by rw [pn_ic_eq]; unfold pm_ic; simp only; rw [if_pos (decide_eq_true hc)]; unfold pm_j; rw [hj, if_pos (Int.natCast_nonneg pc')]; rfl, hl⟩) (K1 hc)
  · exact pR_step ht (fun ls hl => ⟨ls, by rw [pn_ic_eq]; unfold pm_ic; simp only; rw [if_neg (fun z => hc (of_decide_eq_true z))], hl⟩) (K2 hc)
theorem pr_ic_ne {off : Int} {x y : Int32} (ht : pm_tb t pc = some (.if_icmp .ne off, ln)) (hj : (pc : Int) + off = (pc' : Int)) (K1 : ¬ x = y → pR sh t f q cl nL rt post pc' L r σ) (K2 : ¬ (¬ x = y) → pR sh t f q cl nL rt post (pc + 3) L r σ) : pR sh t f q cl nL rt post pc L (.inl y :: .inl x :: r) σ := by
  by_cases hc : ¬ x = y
  · exact pR_step ht (fun ls hl => ⟨ls, by rw [pn_ic_ne]; unfold pm_ic; simp only; rw [if_pos (decide_eq_true hc)]; unfold pm_j; rw [hj, if_pos (Int.natCast_nonneg pc')]; rfl, hl⟩) (K1 hc)
  · exact pR_step ht (fun ls hl => ⟨ls, by rw [pn_ic_ne]; unfold pm_ic; simp only; rw [if_neg (fun z => hc (of_decide_eq_true z))], hl⟩) (K2 hc)
theorem pr_ic_lt {off : Int} {x y : Int32} (ht : pm_tb t pc = some (.if_icmp .lt off, ln)) (hj : (pc : Int) + off = (pc' : Int)) (K1 : x < y → pR sh t f q cl nL rt post pc' L r σ) (K2 : ¬ (x < y) → pR sh t f q cl nL rt post (pc + 3) L r σ) : pR sh t f q cl nL rt post pc L (.inl y :: .inl x :: r) σ := by
  by_cases hc : x < y
  · exact pR_step ht (fun ls hl => ⟨ls, by rw [pn_ic_lt]; unfold pm_ic; simp only; rw [if_pos (decide_eq_true hc)]; unfold pm_j; rw [hj, if_pos (Int.natCast_nonneg pc')]; rfl, hl⟩) (K1 hc)
  · exact pR_step ht (fun ls hl => ⟨ls, by rw [pn_ic_lt]; unfold pm_ic; simp only; rw [if_neg (fun z => hc (of_decide_eq_true z))], hl⟩) (K2 hc)
theorem pr_ic_ge {off : Int} {x y : Int32} (ht : pm_tb t pc = some (.if_icmp .ge off, ln)) (hj : (pc : Int) + off = (pc' : Int)) (K1 : y ≤ x → pR sh t f q cl nL rt post pc' L r σ) (K2 : ¬ (y ≤ x) → pR sh t f q cl nL rt post (pc + 3) L r σ) : pR sh t f q cl nL rt post pc L (.inl y :: .inl x :: r) σ := by
  by_cases hc : y ≤ x
  · exact pR_step ht (fun ls hl => ⟨ls, by rw [pn_ic_ge]; unfold pm_ic; simp only; rw [if_pos (decide_eq_true hc)]; unfold pm_j; rw [hj, if_pos (Int.natCast_nonneg pc')]; rfl, hl⟩) (K1 hc)
  · exact pR_step ht (fun ls hl => ⟨ls, by rw [pn_ic_ge]; unfold pm_ic; simp only; rw [if_neg (fun z => hc (of_decide_eq_true z))], hl⟩) (K2 hc)
theorem pr_ic_gt {off : Int} {x y : Int32} (ht : pm_tb t pc = some (.if_icmp .gt off, ln)) (hj : (pc : Int) + off = (pc' : Int)) (K1 : y < x → pR sh t f q cl nL rt post pc' L r σ) (K2 : ¬ (y < x) → pR sh t f q cl nL rt post (pc + 3) L r σ) : pR sh t f q cl nL rt post pc L (.inl y :: .inl x :: r) σ := by
  by_cases hc : y < x
  · exact pR_step ht (fun ls hl => ⟨ls, by rw [pn_ic_gt]; unfold pm_ic; simp only; rw [if_pos (decide_eq_true hc)]; unfold pm_j; rw [hj, if_pos (Int.natCast_nonneg pc')]; rfl, hl⟩) (K1 hc)
  · exact pR_step ht (fun ls hl => ⟨ls, by rw [pn_ic_gt]; unfold pm_ic; simp only; rw [if_neg (fun z => hc (of_decide_eq_true z))], hl⟩) (K2 hc)
theorem pr_ic_le {off : Int} {x y : Int32} (ht : pm_tb t pc = some (.if_icmp .le off, ln)) (hj : (pc : Int) + off = (pc' : Int)) (K1 : x ≤ y → pR sh t f q cl nL rt post pc' L r σ) (K2 : ¬ (x ≤ y) → pR sh t f q cl nL rt post (pc + 3) L r σ) : pR sh t f q cl nL rt post pc L (.inl y :: .inl x :: r) σ := by
  by_cases hc : x ≤ y
  · exact pR_step ht (fun ls hl => ⟨ls, by rw [pn_ic_le]; unfold pm_ic; simp only; rw [if_pos (decide_eq_true hc)]; unfold pm_j; rw [hj, if_pos (Int.natCast_nonneg pc')]; rfl, hl⟩) (K1 hc)
  · exact pR_step ht (fun ls hl => ⟨ls, by rw [pn_ic_le]; unfold pm_ic; simp only; rw [if_neg (fun z => hc (of_decide_eq_true z))], hl⟩) (K2 hc)
theorem pr_tsO {d lo hi : Int} {o : Array Int} {x : Int32} (ht : pm_tb t pc = some (.tableswitch d lo hi o, ln)) (hc : x.toInt < lo ∨ hi < x.toInt) (hj : (pc : Int) + d = (pc' : Int)) (K : pR sh t f q cl nL rt post (pc') L (r) σ) : pR sh t f q cl nL rt post pc L (.inl x :: r) σ := pR_step ht (fun ls hl => ⟨ls, by rw [pn_tsw]; unfold pm_tsw; simp only; rw [if_pos hc]; unfold pm_j; rw [hj, if_pos (Int.natCast_nonneg pc')]; rfl, hl⟩) K
theorem pr_tsI {d lo hi off : Int} {o : Array Int} {x : Int32} (ht : pm_tb t pc = some (.tableswitch d lo hi o, ln)) (hc : ¬ (x.toInt < lo ∨ hi < x.toInt)) (ho : o[(x.toInt - lo).toNat]? = some off) (hj : (pc : Int) + off = (pc' : Int)) (K : pR sh t f q cl nL rt post (pc') L (r) σ) : pR sh t f q cl nL rt post pc L (.inl x :: r) σ := pR_step ht (fun ls hl => ⟨ls, by rw [pn_tsw]; unfold pm_tsw; simp only; rw [if_neg hc, ho]; unfold pm_j; simp only; rw [hj, if_pos (Int.natCast_nonneg pc')]; rfl, hl⟩) K
theorem pr_lsw {d off : Int} {ps : Array (Int × Int)} {x : Int32} (ht : pm_tb t pc = some (.lookupswitch d ps, ln)) (hs : (ps.toList.zip (ps.toList.drop 1)).all (fun (a, next) => a.1 < next.1) = true) (ho : Op.lookupswitch.offset ps.toList d x.toInt = off) (hj : (pc : Int) + off = (pc' : Int)) (K : pR sh t f q cl nL rt post (pc') L (r) σ) : pR sh t f q cl nL rt post pc L (.inl x :: r) σ := pR_step ht (fun ls hl => ⟨ls, by rw [pn_lsw]; unfold pm_lsw; simp only; rw [if_pos hs, ho]; unfold pm_j; rw [hj, if_pos (Int.natCast_nonneg pc')]; rfl, hl⟩) K
theorem pr_get0 {idx ci k i : Nat} (ht : pm_tb t pc = some (.getfield idx, ln)) (hf : pm_fb f idx = some (ci, k)) (hs : sh i = .inl ci) (hk : (pm_fk ci)[k]? = some (0)) (K : pR sh t f q cl nL rt post (pc + 3) L (.inl (σ.1 i k) :: r) σ) : pR sh t f q cl nL rt post pc L (.inr (.inr i) :: r) σ := pR_step ht (fun ls hl => ⟨ls, by rw [pn_gf]; unfold pm_gf; rw [hf]; simp only; rw [if_pos hs, hk], hl⟩) K
theorem pr_get1 {idx ci k i : Nat} (ht : pm_tb t pc = some (.getfield idx, ln)) (hf : pm_fb f idx = some (ci, k)) (hs : sh i = .inl ci) (hk : (pm_fk ci)[k]? = some (1)) (K : pR sh t f q cl nL rt post (pc + 3) L (.inl (σ.1 i k) :: r) σ) : pR sh t f q cl nL rt post pc L (.inr (.inr i) :: r) σ := pR_step ht (fun ls hl => ⟨ls, by rw [pn_gf]; unfold pm_gf; rw [hf]; simp only; rw [if_pos hs, hk], hl⟩) K
theorem pr_get2 {idx ci k i : Nat} (ht : pm_tb t pc = some (.getfield idx, ln)) (hf : pm_fb f idx = some (ci, k)) (hs : sh i = .inl ci) (hk : (pm_fk ci)[k]? = some (2)) (K : pR sh t f q cl nL rt post (pc + 3) L (.inr (.inl (σ.2 i k)) :: r) σ) : pR sh t f q cl nL rt post pc L (.inr (.inr i) :: r) σ := pR_step ht (fun ls hl => ⟨ls, by rw [pn_gf]; unfold pm_gf; rw [hf]; simp only; rw [if_pos hs, hk], hl⟩) K
theorem pr_get3 {idx ci k i : Nat} (ht : pm_tb t pc = some (.getfield idx, ln)) (hf : pm_fb f idx = some (ci, k)) (hs : sh i = .inl ci) (hk : (pm_fk ci)[k]? = some (3)) (K : pR sh t f q cl nL rt post (pc + 3) L (.inl (σ.1 i k) :: r) σ) : pR sh t f q cl nL rt post pc L (.inr (.inr i) :: r) σ := pR_step ht (fun ls hl => ⟨ls, by rw [pn_gf]; unfold pm_gf; rw [hf]; simp only; rw [if_pos hs, hk], hl⟩) K
theorem pr_geta {idx ci k i d j : Nat} (ht : pm_tb t pc = some (.getfield idx, ln)) (hf : pm_fb f idx = some (ci, k)) (hs : sh i = .inl ci) (hk : (pm_fk ci)[k]? = some (d + 4)) (hd : i + d = j) (K : pR sh t f q cl nL rt post (pc + 3) L (.inr (.inr j) :: r) σ) : pR sh t f q cl nL rt post pc L (.inr (.inr i) :: r) σ := pR_step ht (fun ls hl => ⟨ls, by rw [pn_gf]; unfold pm_gf; rw [hf]; simp only; rw [if_pos hs, hk]; subst hd; rfl, hl⟩) K
theorem pr_put0 {idx ci k i : Nat} {x : Int32} (ht : pm_tb t pc = some (.putfield idx, ln)) (hf : pm_fb f idx = some (ci, k)) (hs : sh i = .inl ci) (hk : (pm_fk ci)[k]? = some 0) (K : pR sh t f q cl nL rt post (pc + 3) L (r) (pm_ui σ.1 i k x, σ.2)) : pR sh t f q cl nL rt post pc L (.inl x :: .inr (.inr i) :: r) σ := pR_step ht (fun ls hl => ⟨ls, by rw [pn_pf]; unfold pm_pf; rw [hf]; simp only; rw [if_pos hs, hk]; rfl, hl⟩) K
theorem pr_put1 {idx ci k i : Nat} {x : Int32} (ht : pm_tb t pc = some (.putfield idx, ln)) (hf : pm_fb f idx = some (ci, k)) (hs : sh i = .inl ci) (hk : (pm_fk ci)[k]? = some 1) (hx : x = 0 ∨ x = 1) (K : pR sh t f q cl nL rt post (pc + 3) L (r) (pm_ui σ.1 i k x, σ.2)) : pR sh t f q cl nL rt post pc L (.inl x :: .inr (.inr i) :: r) σ := pR_step ht (fun ls hl => ⟨ls, by rw [pn_pf]; unfold pm_pf; rw [hf]; simp only; rw [if_pos hs, hk]; simp only; rw [if_pos hx], hl⟩) K
theorem pr_put2 {idx ci k i : Nat} {x : Int64} (ht : pm_tb t pc = some (.putfield idx, ln)) (hf : pm_fb f idx = some (ci, k)) (hs : sh i = .inl ci) (hk : (pm_fk ci)[k]? = some 2) (K : pR sh t f q cl nL rt post (pc + 3) L (r) (σ.1, pm_uj σ.2 i k x)) : pR sh t f q cl nL rt post pc L (.inr (.inl x) :: .inr (.inr i) :: r) σ := pR_step ht (fun ls hl => ⟨ls, by rw [pn_pf]; unfold pm_pf; rw [hf]; simp only; rw [if_pos hs, hk]; rfl, hl⟩) K
theorem pm_ix {n j : Nat} {x : Int32} (hx : x = nI j) (hj : j < n) (hn : n < 2 ^ 31) : ¬ (x < 0 ∨ n ≤ x.toNatClampNeg) ∧ x.toNatClampNeg = j := by
  subst hx
  exact ⟨nI_in hj hn, nI_clamp (by omega)⟩
theorem pr_ial {i n : Nat} {x : Int32} (ht : pm_tb t pc = some (.iaload, ln)) (j : Nat) (hs : sh i = .inr (0, n)) (hx : x = nI j) (hj : j < n) (hn : n < 2 ^ 31) (K : pR sh t f q cl nL rt post (pc + 1) L (.inl (σ.1 i j) :: r) σ) : pR sh t f q cl nL rt post pc L (.inl x :: .inr (.inr i) :: r) σ := pR_step ht (fun ls hl => ⟨ls, by obtain ⟨h1, h2⟩ := pm_ix hx hj hn; rw [pn_ial]; unfold pm_ial; simp only [hs]; rw [if_neg h1, h2], hl⟩) K
theorem pr_zal {i n : Nat} {x : Int32} (ht : pm_tb t pc = some (.baload, ln)) (j : Nat) (hs : sh i = .inr (2, n)) (hx : x = nI j) (hj : j < n) (hn : n < 2 ^ 31) (K : pR sh t f q cl nL rt post (pc + 1) L (.inl (σ.1 i j) :: r) σ) : pR sh t f q cl nL rt post pc L (.inl x :: .inr (.inr i) :: r) σ := pR_step ht (fun ls hl => ⟨ls, by obtain ⟨h1, h2⟩ := pm_ix hx hj hn; rw [pn_zal]; unfold pm_zal; simp only [hs]; rw [if_neg h1, h2], hl⟩) K
theorem pr_lal {i n : Nat} {x : Int32} (ht : pm_tb t pc = some (.laload, ln)) (j : Nat) (hs : sh i = .inr (1, n)) (hx : x = nI j) (hj : j < n) (hn : n < 2 ^ 31) (K : pR sh t f q cl nL rt post (pc + 1) L (.inr (.inl (σ.2 i j)) :: r) σ) : pR sh t f q cl nL rt post pc L (.inl x :: .inr (.inr i) :: r) σ := pR_step ht (fun ls hl => ⟨ls, by obtain ⟨h1, h2⟩ := pm_ix hx hj hn; rw [pn_lal]; unfold pm_lal; simp only [hs]; rw [if_neg h1, h2], hl⟩) K
theorem pr_aal {i n a : Nat} {x : Int32} (ht : pm_tb t pc = some (.aaload, ln)) (j : Nat) (hs : sh i = .inr (3, n)) (hx : x = nI j) (hj : j < n) (hn : n < 2 ^ 31) (ha : i + 1 + 8 * j = a) (K : pR sh t f q cl nL rt post (pc + 1) L (.inr (.inr a) :: r) σ) : pR sh t f q cl nL rt post pc L (.inl x :: .inr (.inr i) :: r) σ := pR_step ht (fun ls hl => ⟨ls, by obtain ⟨h1, h2⟩ := pm_ix hx hj hn; rw [pn_aal]; unfold pm_aal; simp only [hs]; rw [if_neg h1, h2]; subst ha; rfl, hl⟩) K
theorem pr_ias {i n : Nat} {x : Int32} {y : Int32} (ht : pm_tb t pc = some (.iastore, ln)) (j : Nat) (hs : sh i = .inr (0, n)) (hx : x = nI j) (hj : j < n) (hn : n < 2 ^ 31) (K : pR sh t f q cl nL rt post (pc + 1) L (r) (pm_ui σ.1 i j y, σ.2)) : pR sh t f q cl nL rt post pc L (.inl y :: .inl x :: .inr (.inr i) :: r) σ := pR_step ht (fun ls hl => ⟨ls, by obtain ⟨h1, h2⟩ := pm_ix hx hj hn; rw [pn_ias]; unfold pm_ias; simp only [hs]; rw [if_neg h1, h2], hl⟩) K
theorem pr_zas {i n : Nat} {x : Int32} {y : Int32} (ht : pm_tb t pc = some (.bastore, ln)) (j : Nat) (hs : sh i = .inr (2, n)) (hx : x = nI j) (hj : j < n) (hn : n < 2 ^ 31) (hy : y = 0 ∨ y = 1) (K : pR sh t f q cl nL rt post (pc + 1) L (r) (pm_ui σ.1 i j y, σ.2)) : pR sh t f q cl nL rt post pc L (.inl y :: .inl x :: .inr (.inr i) :: r) σ := pR_step ht (fun ls hl => ⟨ls, by obtain ⟨h1, h2⟩ := pm_ix hx hj hn; rw [pn_zas]; unfold pm_zas; simp only [hs]; rw [if_neg h1, h2]; exact if_pos hy, hl⟩) K
theorem pr_las {i n : Nat} {x : Int32} {y : Int64} (ht : pm_tb t pc = some (.lastore, ln)) (j : Nat) (hs : sh i = .inr (1, n)) (hx : x = nI j) (hj : j < n) (hn : n < 2 ^ 31) (K : pR sh t f q cl nL rt post (pc + 1) L (r) (σ.1, pm_uj σ.2 i j y)) : pR sh t f q cl nL rt post pc L (.inr (.inl y) :: .inl x :: .inr (.inr i) :: r) σ := pR_step ht (fun ls hl => ⟨ls, by obtain ⟨h1, h2⟩ := pm_ix hx hj hn; rw [pn_las]; unfold pm_las; simp only [hs]; rw [if_neg h1, h2], hl⟩) K
theorem pr_al0 {i n : Nat} (ht : pm_tb t pc = some (.arraylength, ln)) (hs : sh i = .inr (0, n)) (K : pR sh t f q cl nL rt post (pc + 1) L (.inl (nI n) :: r) σ) : pR sh t f q cl nL rt post pc L (.inr (.inr i) :: r) σ := pR_step ht (fun ls hl => ⟨ls, by rw [pn_al]; unfold pm_al; simp only [hs]; rfl, hl⟩) K
theorem pr_al1 {i n : Nat} (ht : pm_tb t pc = some (.arraylength, ln)) (hs : sh i = .inr (1, n)) (K : pR sh t f q cl nL rt post (pc + 1) L (.inl (nI n) :: r) σ) : pR sh t f q cl nL rt post pc L (.inr (.inr i) :: r) σ := pR_step ht (fun ls hl => ⟨ls, by rw [pn_al]; unfold pm_al; simp only [hs]; rfl, hl⟩) K
theorem pr_callV {idx a : Nat} {rc : Option Nat} {g : pFN} {σ' : pST} {rv : Option pSV} (ht : pm_tb t pc = some (.invokevirtual idx, ln)) (hc : pm_lb cl idx = some (a, rc, g)) (hg : a ≤ st.length ∧ pm_cs (st.drop a) ≤ 8 ∧ rc.isNone = false) (hr : g σ (st.take a).reverse = some (σ', rv)) (K : pR sh t f q cl nL rt post (pc + 3) L (rv.toList ++ st.drop a) σ') : pR sh t f q cl nL rt post pc L (st) σ := pR_step ht (fun ls hl => ⟨ls, by rw [pn_callV]; unfold pm_call; rw [hc]; simp only; rw [if_pos hg, hr], hl⟩) K
theorem pr_callS {idx a : Nat} {rc : Option Nat} {g : pFN} {σ' : pST} {rv : Option pSV} (ht : pm_tb t pc = some (.invokestatic idx, ln)) (hc : pm_lb cl idx = some (a, rc, g)) (hg : a ≤ st.length ∧ pm_cs (st.drop a) ≤ 8 ∧ rc.isNone = true) (hr : g σ (st.take a).reverse = some (σ', rv)) (K : pR sh t f q cl nL rt post (pc + 3) L (rv.toList ++ st.drop a) σ') : pR sh t f q cl nL rt post pc L (st) σ := pR_step ht (fun ls hl => ⟨ls, by rw [pn_callS]; unfold pm_call; rw [hc]; simp only; rw [if_pos hg, hr], hl⟩) K
theorem pr_ret (ht : pm_tb t pc = some (.return_, ln)) (hr : rt = 0) (hp : post (σ, none)) : pR sh t f q cl nL rt post pc L [] σ := by
  subst hr
  exact pR_end ht (fun ls => rfl) hp
theorem pr_iret {x : Int32} (ht : pm_tb t pc = some (.ireturn, ln)) (hr : rt = 1) (hp : post (σ, some (.inl x))) : pR sh t f q cl nL rt post pc L [.inl x] σ := by
  subst hr
  exact pR_end ht (fun ls => rfl) hp
theorem pr_zret {x : Int32} (ht : pm_tb t pc = some (.ireturn, ln)) (hr : rt = 2) (hx : x = 0 ∨ x = 1) (hp : post (σ, some (.inl x))) : pR sh t f q cl nL rt post pc L [.inl x] σ := by
  subst hr
  exact pR_end ht (fun ls => if_pos hx) hp
theorem pr_lret {x : Int64} (ht : pm_tb t pc = some (.lreturn, ln)) (hr : rt = 3) (hp : post (σ, some (.inr (.inl x)))) : pR sh t f q cl nL rt post pc L [.inr (.inl x)] σ := by
  subst hr
  exact pR_end ht (fun ls => rfl) hp
end PR
theorem pm_has_self : ∀ (vs : List pSV) (i : Nat), pm_has (pm_en i vs) (pm_en i vs) := by
  have key : ∀ (vs : List pSV) (i : Nat) (q : Nat × pSV), q ∈ pm_en i vs → i ≤ q.1 ∧ pm_lk (pm_en i vs) q.1 = some q.2 := by
    intro vs
    induction vs with
    | nil => intro i q h; cases h
    | cons v vs ih =>
      intro i q h
      rcases List.mem_cons.mp h with rfl | h
      · exact ⟨Nat.le_refl _, by simp [pm_lk, pm_en]⟩
      · obtain ⟨h1, h2⟩ := ih _ q h
        have h3 : i < q.1 := by
          split at h1 <;> omega
        refine ⟨by omega, ?_⟩
        have hne : (i == q.1) = false := by simp only [beq_eq_false_iff_ne]; omega
        show pm_lk ((i, v) :: pm_en _ vs) q.1 = some q.2
        unfold pm_lk at h2 ⊢
        rw [List.find?_cons, hne]
        exact h2
  exact fun vs i q hq => (key vs i q hq).2
theorem pR_met {sh : pSH} {ci i : Nat} {t : List (Nat × (Instr × Nat))} {f : List (Nat × (Nat × Nat))} {k : List (Nat × (Int32 ⊕ Int64))} {cl : List (Nat × (Nat × (Option Nat × pFN)))} {nL rt : Nat} {σ : pST} {vs : List pSV} {post : pRT → Prop} (hs : sh i = .inl ci) (hz : pm_sz (.inr (.inr i) :: vs) ≤ nL) (h : pR sh t f k cl nL rt post 0 (pm_en 0 (.inr (.inr i) :: vs)) [] σ) : ∃ x, pm_met sh (some ci) t f k cl nL rt σ (.inr (.inr i) :: vs) = some x ∧ post x := by
  obtain ⟨n, x, h1, h2⟩ := h _ (pm_has_self _ _)
  exact ⟨x, pm_met_of n hs hz h1, h2⟩
theorem pR_metS {sh : pSH} {t : List (Nat × (Instr × Nat))} {f : List (Nat × (Nat × Nat))} {k : List (Nat × (Int32 ⊕ Int64))} {cl : List (Nat × (Nat × (Option Nat × pFN)))} {nL rt : Nat} {σ : pST} {vs : List pSV} {post : pRT → Prop} (hz : pm_sz vs ≤ nL) (h : pR sh t f k cl nL rt post 0 (pm_en 0 vs) [] σ) : ∃ x, pm_met sh none t f k cl nL rt σ vs = some x ∧ post x := by
  obtain ⟨n, x, h1, h2⟩ := h _ (pm_has_self _ _)
  exact ⟨x, pm_met_ofS n hz h1, h2⟩
end
