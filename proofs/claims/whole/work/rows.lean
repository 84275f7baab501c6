section
-- ===== PART A: goes FIRST, ahead of the names: the tables' words, and 'selects' of the private methods out of them =====
/-- a private method of a class that the tables say can be made, by its rows of tables_1 -/
def lw_okq (q : MethodName × Nat) : Prop := (q.1.cls ≠ "java/lang/invoke/MethodHandle" ∧ q.1.cls ≠ "java/lang/invoke/VarHandle") ∧ Cond.instantiable q.1.cls q.2 ∈ tables_1 ∧ Cond.privateMethod q.1 ∈ tables_1 ∧ Cond.instanceMethod q.1 ∈ tables_1
theorem lw_p0 : lw_okq (⟨"ParallelUndo$Workers", "isDone", "()Z"⟩, 17) := ⟨⟨by decide +kernel, by decide +kernel⟩, List.mem_of_getElem? (i := 55) (by decide +kernel), List.mem_of_getElem? (i := 342) (by decide +kernel), List.mem_of_getElem? (i := 343) (by decide +kernel)⟩
theorem lw_p1 : lw_okq (⟨"ParallelUndo$Workers", "step", "(ILParallelUndo$Block;)V"⟩, 17) := ⟨⟨by decide +kernel, by decide +kernel⟩, List.mem_of_getElem? (i := 55) (by decide +kernel), List.mem_of_getElem? (i := 347) (by decide +kernel), List.mem_of_getElem? (i := 348) (by decide +kernel)⟩
theorem lw_p2 : lw_okq (⟨"ParallelUndo$Workers", "goOn", "(ILParallelUndo$Block;)V"⟩, 17) := ⟨⟨by decide +kernel, by decide +kernel⟩, List.mem_of_getElem? (i := 55) (by decide +kernel), List.mem_of_getElem? (i := 351) (by decide +kernel), List.mem_of_getElem? (i := 352) (by decide +kernel)⟩
theorem lw_p3 : lw_okq (⟨"ParallelUndo$Attempt", "leafAt", "(IJ)I"⟩, 18) := ⟨⟨by decide +kernel, by decide +kernel⟩, List.mem_of_getElem? (i := 87) (by decide +kernel), List.mem_of_getElem? (i := 367) (by decide +kernel), List.mem_of_getElem? (i := 368) (by decide +kernel)⟩
theorem lw_p4 : lw_okq (⟨"ParallelUndo$Attempt", "read", "(IILParallelUndo$Table;)I"⟩, 18) := ⟨⟨by decide +kernel, by decide +kernel⟩, List.mem_of_getElem? (i := 87) (by decide +kernel), List.mem_of_getElem? (i := 372) (by decide +kernel), List.mem_of_getElem? (i := 373) (by decide +kernel)⟩
theorem lw_p5 : lw_okq (⟨"ParallelUndo$Attempt", "keep", "(IIIJ)V"⟩, 18) := ⟨⟨by decide +kernel, by decide +kernel⟩, List.mem_of_getElem? (i := 87) (by decide +kernel), List.mem_of_getElem? (i := 396) (by decide +kernel), List.mem_of_getElem? (i := 397) (by decide +kernel)⟩
theorem lw_p6 : lw_okq (⟨"ParallelUndo$Attempt", "perform", "(IIIJ)V"⟩, 18) := ⟨⟨by decide +kernel, by decide +kernel⟩, List.mem_of_getElem? (i := 87) (by decide +kernel), List.mem_of_getElem? (i := 400) (by decide +kernel), List.mem_of_getElem? (i := 401) (by decide +kernel)⟩
theorem lw_p7 : lw_okq (⟨"ParallelUndo$Attempt", "write", "(IJ)V"⟩, 18) := ⟨⟨by decide +kernel, by decide +kernel⟩, List.mem_of_getElem? (i := 87) (by decide +kernel), List.mem_of_getElem? (i := 404) (by decide +kernel), List.mem_of_getElem? (i := 405) (by decide +kernel)⟩
theorem lw_p8 : lw_okq (⟨"ParallelUndo$Attempt", "raise", "(J)V"⟩, 18) := ⟨⟨by decide +kernel, by decide +kernel⟩, List.mem_of_getElem? (i := 87) (by decide +kernel), List.mem_of_getElem? (i := 408) (by decide +kernel), List.mem_of_getElem? (i := 409) (by decide +kernel)⟩
theorem lw_p9 : lw_okq (⟨"ParallelUndo$Attempt", "fail", "()V"⟩, 18) := ⟨⟨by decide +kernel, by decide +kernel⟩, List.mem_of_getElem? (i := 87) (by decide +kernel), List.mem_of_getElem? (i := 412) (by decide +kernel), List.mem_of_getElem? (i := 413) (by decide +kernel)⟩
theorem lw_p10 : lw_okq (⟨"ParallelUndo$Workers", "giveUp", "(III)V"⟩, 17) := ⟨⟨by decide +kernel, by decide +kernel⟩, List.mem_of_getElem? (i := 55) (by decide +kernel), List.mem_of_getElem? (i := 416) (by decide +kernel), List.mem_of_getElem? (i := 417) (by decide +kernel)⟩
theorem lw_p11 : lw_okq (⟨"ParallelUndo$Workers", "end", "(II)V"⟩, 17) := ⟨⟨by decide +kernel, by decide +kernel⟩, List.mem_of_getElem? (i := 55) (by decide +kernel), List.mem_of_getElem? (i := 425) (by decide +kernel), List.mem_of_getElem? (i := 426) (by decide +kernel)⟩
theorem lw_p12 : lw_okq (⟨"ParallelUndo$Workers", "wakeThoseWaitingFor", "(I)V"⟩, 17) := ⟨⟨by decide +kernel, by decide +kernel⟩, List.mem_of_getElem? (i := 55) (by decide +kernel), List.mem_of_getElem? (i := 434) (by decide +kernel), List.mem_of_getElem? (i := 435) (by decide +kernel)⟩
theorem lw_p13 : lw_okq (⟨"ParallelUndo$Workers", "giveLook", "(II)V"⟩, 17) := ⟨⟨by decide +kernel, by decide +kernel⟩, List.mem_of_getElem? (i := 55) (by decide +kernel), List.mem_of_getElem? (i := 441) (by decide +kernel), List.mem_of_getElem? (i := 442) (by decide +kernel)⟩
theorem lw_p14 : lw_okq (⟨"ParallelUndo$Workers", "look", "(I)V"⟩, 17) := ⟨⟨by decide +kernel, by decide +kernel⟩, List.mem_of_getElem? (i := 55) (by decide +kernel), List.mem_of_getElem? (i := 445) (by decide +kernel), List.mem_of_getElem? (i := 446) (by decide +kernel)⟩
theorem lw_p15 : lw_okq (⟨"ParallelUndo$Workers", "undo", "(I)V"⟩, 17) := ⟨⟨by decide +kernel, by decide +kernel⟩, List.mem_of_getElem? (i := 55) (by decide +kernel), List.mem_of_getElem? (i := 454) (by decide +kernel), List.mem_of_getElem? (i := 455) (by decide +kernel)⟩
def lw_privs_1 : List (MethodName × Nat) := [(⟨"ParallelUndo$Workers", "isDone", "()Z"⟩, 17), (⟨"ParallelUndo$Workers", "step", "(ILParallelUndo$Block;)V"⟩, 17), (⟨"ParallelUndo$Workers", "goOn", "(ILParallelUndo$Block;)V"⟩, 17), (⟨"ParallelUndo$Attempt", "leafAt", "(IJ)I"⟩, 18), (⟨"ParallelUndo$Attempt", "read", "(IILParallelUndo$Table;)I"⟩, 18), (⟨"ParallelUndo$Attempt", "keep", "(IIIJ)V"⟩, 18), (⟨"ParallelUndo$Attempt", "perform", "(IIIJ)V"⟩, 18), (⟨"ParallelUndo$Attempt", "write", "(IJ)V"⟩, 18), (⟨"ParallelUndo$Attempt", "raise", "(J)V"⟩, 18), (⟨"ParallelUndo$Attempt", "fail", "()V"⟩, 18), (⟨"ParallelUndo$Workers", "giveUp", "(III)V"⟩, 17), (⟨"ParallelUndo$Workers", "end", "(II)V"⟩, 17), (⟨"ParallelUndo$Workers", "wakeThoseWaitingFor", "(I)V"⟩, 17), (⟨"ParallelUndo$Workers", "giveLook", "(II)V"⟩, 17), (⟨"ParallelUndo$Workers", "look", "(I)V"⟩, 17), (⟨"ParallelUndo$Workers", "undo", "(I)V"⟩, 17)]
theorem lw_r1 : ∀ q ∈ lw_privs_1, lw_okq q := List.forall_mem_cons.mpr ⟨lw_p0, List.forall_mem_cons.mpr ⟨lw_p1, List.forall_mem_cons.mpr ⟨lw_p2, List.forall_mem_cons.mpr ⟨lw_p3, List.forall_mem_cons.mpr ⟨lw_p4, List.forall_mem_cons.mpr ⟨lw_p5, List.forall_mem_cons.mpr ⟨lw_p6, List.forall_mem_cons.mpr ⟨lw_p7, List.forall_mem_cons.mpr ⟨lw_p8, List.forall_mem_cons.mpr ⟨lw_p9, List.forall_mem_cons.mpr ⟨lw_p10, List.forall_mem_cons.mpr ⟨lw_p11, List.forall_mem_cons.mpr ⟨lw_p12, List.forall_mem_cons.mpr ⟨lw_p13, List.forall_mem_cons.mpr ⟨lw_p14, List.forall_mem_cons.mpr ⟨lw_p15, fun _ h => absurd h List.not_mem_nil⟩⟩⟩⟩⟩⟩⟩⟩⟩⟩⟩⟩⟩⟩⟩⟩
theorem lw_p16 : lw_okq (⟨"ParallelUndo$Workers", "giveRun", "(II)V"⟩, 17) := ⟨⟨by decide +kernel, by decide +kernel⟩, List.mem_of_getElem? (i := 55) (by decide +kernel), List.mem_of_getElem? (i := 462) (by decide +kernel), List.mem_of_getElem? (i := 463) (by decide +kernel)⟩
theorem lw_p17 : lw_okq (⟨"ParallelUndo$Workers", "takeTask", "(I)V"⟩, 17) := ⟨⟨by decide +kernel, by decide +kernel⟩, List.mem_of_getElem? (i := 55) (by decide +kernel), List.mem_of_getElem? (i := 473) (by decide +kernel), List.mem_of_getElem? (i := 474) (by decide +kernel)⟩
theorem lw_p18 : lw_okq (⟨"ParallelUndo$Bench", "joinTouching", "(I)V"⟩, 3) := ⟨⟨by decide +kernel, by decide +kernel⟩, List.mem_of_getElem? (i := 61) (by decide +kernel), List.mem_of_getElem? (i := 489) (by decide +kernel), List.mem_of_getElem? (i := 490) (by decide +kernel)⟩
theorem lw_p19 : lw_okq (⟨"ParallelUndo$Bench", "joinGroups", "(II)V"⟩, 3) := ⟨⟨by decide +kernel, by decide +kernel⟩, List.mem_of_getElem? (i := 61) (by decide +kernel), List.mem_of_getElem? (i := 497) (by decide +kernel), List.mem_of_getElem? (i := 498) (by decide +kernel)⟩
theorem lw_p20 : lw_okq (⟨"ParallelUndoModel", "isDone", "(I)Z"⟩, 61) := ⟨⟨by decide +kernel, by decide +kernel⟩, List.mem_of_getElem? (i := 580) (by decide +kernel), List.mem_of_getElem? (i := 796) (by decide +kernel), List.mem_of_getElem? (i := 797) (by decide +kernel)⟩
theorem lw_p21 : lw_okq (⟨"ParallelUndoModel", "step", "(I)V"⟩, 61) := ⟨⟨by decide +kernel, by decide +kernel⟩, List.mem_of_getElem? (i := 580) (by decide +kernel), List.mem_of_getElem? (i := 801) (by decide +kernel), List.mem_of_getElem? (i := 802) (by decide +kernel)⟩
theorem lw_p22 : lw_okq (⟨"ParallelUndoModel", "runStep", "(I)V"⟩, 61) := ⟨⟨by decide +kernel, by decide +kernel⟩, List.mem_of_getElem? (i := 580) (by decide +kernel), List.mem_of_getElem? (i := 805) (by decide +kernel), List.mem_of_getElem? (i := 806) (by decide +kernel)⟩
theorem lw_p23 : lw_okq (⟨"ParallelUndoModel", "isOver", "(I)Z"⟩, 61) := ⟨⟨by decide +kernel, by decide +kernel⟩, List.mem_of_getElem? (i := 580) (by decide +kernel), List.mem_of_getElem? (i := 809) (by decide +kernel), List.mem_of_getElem? (i := 810) (by decide +kernel)⟩
theorem lw_p24 : lw_okq (⟨"ParallelUndoModel", "doAct", "(I)I"⟩, 61) := ⟨⟨by decide +kernel, by decide +kernel⟩, List.mem_of_getElem? (i := 580) (by decide +kernel), List.mem_of_getElem? (i := 813) (by decide +kernel), List.mem_of_getElem? (i := 814) (by decide +kernel)⟩
theorem lw_p25 : lw_okq (⟨"ParallelUndoModel", "see", "(II)V"⟩, 61) := ⟨⟨by decide +kernel, by decide +kernel⟩, List.mem_of_getElem? (i := 580) (by decide +kernel), List.mem_of_getElem? (i := 821) (by decide +kernel), List.mem_of_getElem? (i := 822) (by decide +kernel)⟩
theorem lw_p26 : lw_okq (⟨"ParallelUndoModel", "conflict0", "(II)V"⟩, 61) := ⟨⟨by decide +kernel, by decide +kernel⟩, List.mem_of_getElem? (i := 580) (by decide +kernel), List.mem_of_getElem? (i := 825) (by decide +kernel), List.mem_of_getElem? (i := 826) (by decide +kernel)⟩
theorem lw_p27 : lw_okq (⟨"ParallelUndoModel", "ends", "(II)V"⟩, 61) := ⟨⟨by decide +kernel, by decide +kernel⟩, List.mem_of_getElem? (i := 580) (by decide +kernel), List.mem_of_getElem? (i := 829) (by decide +kernel), List.mem_of_getElem? (i := 830) (by decide +kernel)⟩
theorem lw_p28 : lw_okq (⟨"ParallelUndoModel", "toLook", "(II)V"⟩, 61) := ⟨⟨by decide +kernel, by decide +kernel⟩, List.mem_of_getElem? (i := 580) (by decide +kernel), List.mem_of_getElem? (i := 833) (by decide +kernel), List.mem_of_getElem? (i := 834) (by decide +kernel)⟩
theorem lw_p29 : lw_okq (⟨"ParallelUndoModel", "lookStep", "(I)V"⟩, 61) := ⟨⟨by decide +kernel, by decide +kernel⟩, List.mem_of_getElem? (i := 580) (by decide +kernel), List.mem_of_getElem? (i := 837) (by decide +kernel), List.mem_of_getElem? (i := 838) (by decide +kernel)⟩
theorem lw_p30 : lw_okq (⟨"ParallelUndoModel", "toRun", "(II)V"⟩, 61) := ⟨⟨by decide +kernel, by decide +kernel⟩, List.mem_of_getElem? (i := 580) (by decide +kernel), List.mem_of_getElem? (i := 841) (by decide +kernel), List.mem_of_getElem? (i := 842) (by decide +kernel)⟩
theorem lw_p31 : lw_okq (⟨"ParallelUndoModel", "begin", "(I)V"⟩, 61) := ⟨⟨by decide +kernel, by decide +kernel⟩, List.mem_of_getElem? (i := 580) (by decide +kernel), List.mem_of_getElem? (i := 845) (by decide +kernel), List.mem_of_getElem? (i := 846) (by decide +kernel)⟩
def lw_privs_2 : List (MethodName × Nat) := [(⟨"ParallelUndo$Workers", "giveRun", "(II)V"⟩, 17), (⟨"ParallelUndo$Workers", "takeTask", "(I)V"⟩, 17), (⟨"ParallelUndo$Bench", "joinTouching", "(I)V"⟩, 3), (⟨"ParallelUndo$Bench", "joinGroups", "(II)V"⟩, 3), (⟨"ParallelUndoModel", "isDone", "(I)Z"⟩, 61), (⟨"ParallelUndoModel", "step", "(I)V"⟩, 61), (⟨"ParallelUndoModel", "runStep", "(I)V"⟩, 61), (⟨"ParallelUndoModel", "isOver", "(I)Z"⟩, 61), (⟨"ParallelUndoModel", "doAct", "(I)I"⟩, 61), (⟨"ParallelUndoModel", "see", "(II)V"⟩, 61), (⟨"ParallelUndoModel", "conflict0", "(II)V"⟩, 61), (⟨"ParallelUndoModel", "ends", "(II)V"⟩, 61), (⟨"ParallelUndoModel", "toLook", "(II)V"⟩, 61), (⟨"ParallelUndoModel", "lookStep", "(I)V"⟩, 61), (⟨"ParallelUndoModel", "toRun", "(II)V"⟩, 61), (⟨"ParallelUndoModel", "begin", "(I)V"⟩, 61)]
theorem lw_r2 : ∀ q ∈ lw_privs_2, lw_okq q := List.forall_mem_cons.mpr ⟨lw_p16, List.forall_mem_cons.mpr ⟨lw_p17, List.forall_mem_cons.mpr ⟨lw_p18, List.forall_mem_cons.mpr ⟨lw_p19, List.forall_mem_cons.mpr ⟨lw_p20, List.forall_mem_cons.mpr ⟨lw_p21, List.forall_mem_cons.mpr ⟨lw_p22, List.forall_mem_cons.mpr ⟨lw_p23, List.forall_mem_cons.mpr ⟨lw_p24, List.forall_mem_cons.mpr ⟨lw_p25, List.forall_mem_cons.mpr ⟨lw_p26, List.forall_mem_cons.mpr ⟨lw_p27, List.forall_mem_cons.mpr ⟨lw_p28, List.forall_mem_cons.mpr ⟨lw_p29, List.forall_mem_cons.mpr ⟨lw_p30, List.forall_mem_cons.mpr ⟨lw_p31, fun _ h => absurd h List.not_mem_nil⟩⟩⟩⟩⟩⟩⟩⟩⟩⟩⟩⟩⟩⟩⟩⟩
theorem lw_p32 : lw_okq (⟨"ParallelUndoModel", "allInOrder", "()V"⟩, 61) := ⟨⟨by decide +kernel, by decide +kernel⟩, List.mem_of_getElem? (i := 580) (by decide +kernel), List.mem_of_getElem? (i := 849) (by decide +kernel), List.mem_of_getElem? (i := 850) (by decide +kernel)⟩
theorem lw_p33 : lw_okq (⟨"ParallelUndoModel", "settle", "()V"⟩, 61) := ⟨⟨by decide +kernel, by decide +kernel⟩, List.mem_of_getElem? (i := 580) (by decide +kernel), List.mem_of_getElem? (i := 853) (by decide +kernel), List.mem_of_getElem? (i := 854) (by decide +kernel)⟩
theorem lw_p34 : lw_okq (⟨"ParallelUndoModel", "touches", "(II)Z"⟩, 61) := ⟨⟨by decide +kernel, by decide +kernel⟩, List.mem_of_getElem? (i := 580) (by decide +kernel), List.mem_of_getElem? (i := 857) (by decide +kernel), List.mem_of_getElem? (i := 858) (by decide +kernel)⟩
theorem lw_p35 : lw_okq (⟨"ParallelUndoModel", "rootOf", "(I)I"⟩, 61) := ⟨⟨by decide +kernel, by decide +kernel⟩, List.mem_of_getElem? (i := 580) (by decide +kernel), List.mem_of_getElem? (i := 861) (by decide +kernel), List.mem_of_getElem? (i := 862) (by decide +kernel)⟩
def lw_privs_3 : List (MethodName × Nat) := [(⟨"ParallelUndoModel", "allInOrder", "()V"⟩, 61), (⟨"ParallelUndoModel", "settle", "()V"⟩, 61), (⟨"ParallelUndoModel", "touches", "(II)Z"⟩, 61), (⟨"ParallelUndoModel", "rootOf", "(I)I"⟩, 61)]
theorem lw_r3 : ∀ q ∈ lw_privs_3, lw_okq q := List.forall_mem_cons.mpr ⟨lw_p32, List.forall_mem_cons.mpr ⟨lw_p33, List.forall_mem_cons.mpr ⟨lw_p34, List.forall_mem_cons.mpr ⟨lw_p35, fun _ h => absurd h List.not_mem_nil⟩⟩⟩⟩
def lw_privs : List (MethodName × Nat) := lw_privs_1 ++ (lw_privs_2 ++ (lw_privs_3))
def lw_tbl : List Cond := k2_sels lw_privs ++ tables_1
theorem lw_privs_ok : ∀ q ∈ lw_privs, lw_okq q := by
  show ∀ q ∈ lw_privs_1 ++ (lw_privs_2 ++ (lw_privs_3)), lw_okq q
  exact List.forall_mem_append.mpr ⟨lw_r1, List.forall_mem_append.mpr ⟨lw_r2, lw_r3⟩⟩
end
section
/-! ===== BEGIN words of one list among another's, by their places ===== -/
theorem goodIn_r {big : List Cond} (ws : List Cond) (ps : List Nat) (hp : ws = ps.filterMap (fun i => big[i]?)) (h : ws.all goodWord = true) : GoodIn big ws := by
  intro w hw
  have h1 := List.all_eq_true.mp h w hw
  rw [hp] at hw
  obtain ⟨i, -, hi⟩ := List.mem_filterMap.mp hw
  have hm : w ∈ big := by first | exact List.mem_of_getElem? hi | exact List.getElem?_mem hi
  exact ⟨hm, good_of_word h1⟩
theorem goodIn_app {big a b : List Cond} (ha : GoodIn big a) (hb : GoodIn big b) : GoodIn big (a ++ b) := fun w h => (List.mem_append.mp h).elim (ha w) (hb w)
theorem goodIn_ca {big a b : List Cond} {c : Cond} (ha : GoodIn big (c :: a)) (hb : GoodIn big b) : GoodIn big (c :: (a ++ b)) := fun w h => (List.mem_cons.mp h).elim (fun e => ha w (List.mem_cons.mpr (Or.inl e))) (fun h => (List.mem_append.mp h).elim (fun h => ha w (List.mem_cons.mpr (Or.inr h))) (hb w))
theorem goodIn_sub {big ws : List Cond} (hm : ∀ w ∈ ws, w ∈ big) (h : ws.all goodWord = true) : GoodIn big ws := fun w hw => ⟨hm w hw, good_of_word (List.all_eq_true.mp h w hw)⟩
/-! ===== END ===== -/

/-! ===== BEGIN printed: names, fields, word lists, decode rows ===== -/
def RX0 : String := "ParallelUndo$Attempt"
def TX0 : u_T := fun k => match k with
  | 0 => ("ParallelUndo$Attempt", "self", "I", true)
  | 1 => ("ParallelUndo$Attempt", "began", "I", false)
  | 2 => ("ParallelUndo$Attempt", "doneInAll", "I", false)
  | 3 => ("ParallelUndo$Attempt", "done", "I", false)
  | 4 => ("ParallelUndo$Attempt", "failed", "Z", false)
  | 5 => ("ParallelUndo$Attempt", "kept", "I", false)
  | 6 => ("ParallelUndo$Attempt", "eventCount", "I", false)
  | 7 => ("ParallelUndo$Attempt", "group", "I", false)
  | 8 => ("ParallelUndo$Attempt", "written", "[J", true)
  | 9 => ("ParallelUndo$Attempt", "eventValue", "[J", true)
  | 10 => ("ParallelUndo$Attempt", "next", "I", false)
  | 11 => ("ParallelUndo$Attempt", "keptMask", "I", false)
  | 12 => ("ParallelUndo$Attempt", "writtenMask", "I", false)
  | 13 => ("ParallelUndo$Attempt", "register", "[J", true)
  | 14 => ("ParallelUndo$Attempt", "keptValue", "[J", true)
  | 15 => ("ParallelUndo$Attempt", "keptLeaf", "[I", true)
  | 16 => ("ParallelUndo$Attempt", "keptWriter", "[I", true)
  | _ => ("ParallelUndo$Attempt", "keptNumber", "[I", true)
def tyX0 : Nat → FieldType := fun k => match k with
  | 0 => .int
  | 1 => .int
  | 2 => .int
  | 3 => .int
  | 4 => .boolean
  | 5 => .int
  | 6 => .int
  | 7 => .int
  | 8 => .array .long
  | 9 => .array .long
  | 10 => .int
  | 11 => .int
  | 12 => .int
  | 13 => .array .long
  | 14 => .array .long
  | 15 => .array .int
  | 16 => .array .int
  | _ => .array .int
abbrev wsX00 : List Cond := u_ws RX0 TX0 18
theorem nmX0 : ∀ a, a < 18 → ∀ b, b < 18 → a ≠ b → (TX0 a).2.1 ≠ (TX0 b).2.1 := by decide +kernel
theorem tyX0_ok : ∀ k, k < 18 → parseFieldDescriptor (TX0 k).2.2.1 = some (tyX0 k) := by decide +kernel
abbrev cX0_init : ByteArray := prog_2_method_1_code
def yX0_init : MethodName := ⟨RX0, "<init>", "(I)V"⟩
abbrev cX0_open : ByteArray := prog_2_method_2_code
def yX0_open : MethodName := ⟨RX0, "open", "()V"⟩
abbrev cX0_begin : ByteArray := prog_2_method_3_code
def yX0_begin : MethodName := ⟨RX0, "begin", "()V"⟩
abbrev cX0_isOver : ByteArray := prog_2_method_4_code
def yX0_isOver : MethodName := ⟨RX0, "isOver", "(LParallelUndo$Block;)Z"⟩
abbrev cX0_hasWritten : ByteArray := prog_2_method_5_code
def yX0_hasWritten : MethodName := ⟨RX0, "hasWritten", "(I)Z"⟩
abbrev cX0_countWritten : ByteArray := prog_2_method_6_code
def yX0_countWritten : MethodName := ⟨RX0, "countWritten", "()I"⟩
abbrev cX0_touched : ByteArray := prog_2_method_7_code
def yX0_touched : MethodName := ⟨RX0, "touched", "(I)Z"⟩
abbrev cX0_doNext : ByteArray := prog_2_method_8_code
def yX0_doNext : MethodName := ⟨RX0, "doNext", "(LParallelUndo$Block;LParallelUndo$Table;)I"⟩
abbrev cX0_leafAt : ByteArray := prog_2_method_9_code
def yX0_leafAt : MethodName := ⟨RX0, "leafAt", "(IJ)I"⟩
abbrev cX0_read : ByteArray := prog_2_method_10_code
def yX0_read : MethodName := ⟨RX0, "read", "(IILParallelUndo$Table;)I"⟩
abbrev cX0_keep : ByteArray := prog_2_method_11_code
def yX0_keep : MethodName := ⟨RX0, "keep", "(IIIJ)V"⟩
abbrev cX0_perform : ByteArray := prog_2_method_12_code
def yX0_perform : MethodName := ⟨RX0, "perform", "(IIIJ)V"⟩
abbrev cX0_write : ByteArray := prog_2_method_13_code
def yX0_write : MethodName := ⟨RX0, "write", "(IJ)V"⟩
abbrev cX0_raise : ByteArray := prog_2_method_14_code
def yX0_raise : MethodName := ⟨RX0, "raise", "(J)V"⟩
abbrev cX0_fail : ByteArray := prog_2_method_15_code
def yX0_fail : MethodName := ⟨RX0, "fail", "()V"⟩
abbrev cX0_firstChanged : ByteArray := prog_2_method_16_code
def yX0_firstChanged : MethodName := ⟨RX0, "firstChanged", "(LParallelUndo$Table;)I"⟩
def RX1 : String := "ParallelUndo$Bench"
def TX1 : u_T := fun k => match k with
  | 0 => ("ParallelUndo$Bench", "table", "LParallelUndo$Table;", true)
  | 1 => ("ParallelUndo$Bench", "attempts", "[LParallelUndo$Attempt;", true)
  | _ => ("ParallelUndo$Bench", "calls", "I", false)
def tyX1 : Nat → FieldType := fun k => match k with
  | 0 => .object "ParallelUndo$Table"
  | 1 => .array (.object "ParallelUndo$Attempt")
  | _ => .int
abbrev wsX10 : List Cond := u_ws RX1 TX1 3
theorem nmX1 : ∀ a, a < 3 → ∀ b, b < 3 → a ≠ b → (TX1 a).2.1 ≠ (TX1 b).2.1 := by decide +kernel
theorem tyX1_ok : ∀ k, k < 3 → parseFieldDescriptor (TX1 k).2.2.1 = some (tyX1 k) := by decide +kernel
abbrev cX1_init : ByteArray := prog_3_method_1_code
def yX1_init : MethodName := ⟨RX1, "<init>", "()V"⟩
abbrev cX1_open : ByteArray := prog_3_method_2_code
def yX1_open : MethodName := ⟨RX1, "open", "(LParallelUndo$Block;[J)V"⟩
abbrev cX1_runOneByOne : ByteArray := prog_3_method_3_code
def yX1_runOneByOne : MethodName := ⟨RX1, "runOneByOne", "(LParallelUndo$Block;)V"⟩
abbrev cX1_formGroups : ByteArray := prog_3_method_4_code
def yX1_formGroups : MethodName := ⟨RX1, "formGroups", "()V"⟩
abbrev cX1_joinTouching : ByteArray := prog_3_method_5_code
def yX1_joinTouching : MethodName := ⟨RX1, "joinTouching", "(I)V"⟩
abbrev cX1_joinGroups : ByteArray := prog_3_method_6_code
def yX1_joinGroups : MethodName := ⟨RX1, "joinGroups", "(II)V"⟩
abbrev cX1_countGroups : ByteArray := prog_3_method_7_code
def yX1_countGroups : MethodName := ⟨RX1, "countGroups", "()I"⟩
abbrev cX1_countActs : ByteArray := prog_3_method_8_code
def yX1_countActs : MethodName := ⟨RX1, "countActs", "()I"⟩
abbrev cX1_countEvents : ByteArray := prog_3_method_9_code
def yX1_countEvents : MethodName := ⟨RX1, "countEvents", "()I"⟩
abbrev cX1_tellEvent : ByteArray := prog_3_method_10_code
def yX1_tellEvent : MethodName := ⟨RX1, "tellEvent", "(II)J"⟩
abbrev cX1_tellCall : ByteArray := prog_3_method_11_code
def yX1_tellCall : MethodName := ⟨RX1, "tellCall", "(II)I"⟩
def RX2 : String := "ParallelUndo$Block"
def TX2 : u_T := fun k => match k with
  | 0 => ("ParallelUndo$Block", "calls", "I", false)
  | 1 => ("ParallelUndo$Block", "acts", "[I", true)
  | 2 => ("ParallelUndo$Block", "kind", "[I", true)
  | 3 => ("ParallelUndo$Block", "first", "[I", true)
  | 4 => ("ParallelUndo$Block", "second", "[I", true)
  | _ => ("ParallelUndo$Block", "value", "[J", true)
def tyX2 : Nat → FieldType := fun k => match k with
  | 0 => .int
  | 1 => .array .int
  | 2 => .array .int
  | 3 => .array .int
  | 4 => .array .int
  | _ => .array .long
abbrev wsX20 : List Cond := u_ws RX2 TX2 6
theorem nmX2 : ∀ a, a < 6 → ∀ b, b < 6 → a ≠ b → (TX2 a).2.1 ≠ (TX2 b).2.1 := by decide +kernel
theorem tyX2_ok : ∀ k, k < 6 → parseFieldDescriptor (TX2 k).2.2.1 = some (tyX2 k) := by decide +kernel
abbrev cX2_init : ByteArray := prog_4_method_1_code
def yX2_init : MethodName := ⟨RX2, "<init>", "()V"⟩
abbrev cX2_addCall : ByteArray := prog_4_method_2_code
def yX2_addCall : MethodName := ⟨RX2, "addCall", "()I"⟩
abbrev cX2_addAct : ByteArray := prog_4_method_3_code
def yX2_addAct : MethodName := ⟨RX2, "addAct", "(IIIIJ)I"⟩
abbrev cX2_dropCalls : ByteArray := prog_4_method_4_code
def yX2_dropCalls : MethodName := ⟨RX2, "dropCalls", "()I"⟩
abbrev cX2_hasAct : ByteArray := prog_4_method_5_code
def yX2_hasAct : MethodName := ⟨RX2, "hasAct", "(II)Z"⟩
def RX3 : String := "ParallelUndo$Conflicts"
def TX3 : u_T := fun k => match k with
  | 0 => ("ParallelUndo$Conflicts", "count", "I", false)
  | 1 => ("ParallelUndo$Conflicts", "hit", "[I", true)
  | _ => ("ParallelUndo$Conflicts", "by", "[I", true)
def tyX3 : Nat → FieldType := fun k => match k with
  | 0 => .int
  | 1 => .array .int
  | _ => .array .int
abbrev wsX30 : List Cond := u_ws RX3 TX3 3
theorem nmX3 : ∀ a, a < 3 → ∀ b, b < 3 → a ≠ b → (TX3 a).2.1 ≠ (TX3 b).2.1 := by decide +kernel
theorem tyX3_ok : ∀ k, k < 3 → parseFieldDescriptor (TX3 k).2.2.1 = some (tyX3 k) := by decide +kernel
abbrev cX3_init : ByteArray := prog_5_method_1_code
def yX3_init : MethodName := ⟨RX3, "<init>", "()V"⟩
abbrev cX3_note : ByteArray := prog_5_method_2_code
def yX3_note : MethodName := ⟨RX3, "note", "(II)V"⟩
abbrev cX3_tell : ByteArray := prog_5_method_3_code
def yX3_tell : MethodName := ⟨RX3, "tell", "(II)I"⟩
def RX4 : String := "ParallelUndo$Kinds"
def TX4 : u_T := fun k => match k with
  | _ => ("", "", "", false)
def tyX4 : Nat → FieldType := fun k => match k with
  | _ => .int
abbrev wsX40 : List Cond := u_ws RX4 TX4 0
theorem nmX4 : ∀ a, a < 0 → ∀ b, b < 0 → a ≠ b → (TX4 a).2.1 ≠ (TX4 b).2.1 := by decide +kernel
theorem tyX4_ok : ∀ k, k < 0 → parseFieldDescriptor (TX4 k).2.2.1 = some (tyX4 k) := by decide +kernel
abbrev cX4_allows : ByteArray := prog_6_method_2_code
def yX4_allows : MethodName := ⟨RX4, "allows", "(IIIJ)Z"⟩
abbrev cX4_isRegister : ByteArray := prog_6_method_3_code
def yX4_isRegister : MethodName := ⟨RX4, "isRegister", "(I)Z"⟩
abbrev cX4_hasSecond : ByteArray := prog_6_method_4_code
def yX4_hasSecond : MethodName := ⟨RX4, "hasSecond", "(I)Z"⟩
abbrev cX4_allowsValue : ByteArray := prog_6_method_5_code
def yX4_allowsValue : MethodName := ⟨RX4, "allowsValue", "(IJ)Z"⟩
def RX5 : String := "ParallelUndo$Table"
def TX5 : u_T := fun k => match k with
  | 0 => ("ParallelUndo$Table", "before", "[J", true)
  | 1 => ("ParallelUndo$Table", "state", "[I", true)
  | 2 => ("ParallelUndo$Table", "number", "[I", true)
  | _ => ("ParallelUndo$Table", "value", "[J", true)
def tyX5 : Nat → FieldType := fun k => match k with
  | 0 => .array .long
  | 1 => .array .int
  | 2 => .array .int
  | _ => .array .long
abbrev wsX50 : List Cond := u_ws RX5 TX5 4
theorem nmX5 : ∀ a, a < 4 → ∀ b, b < 4 → a ≠ b → (TX5 a).2.1 ≠ (TX5 b).2.1 := by decide +kernel
theorem tyX5_ok : ∀ k, k < 4 → parseFieldDescriptor (TX5 k).2.2.1 = some (tyX5 k) := by decide +kernel
abbrev cX5_init : ByteArray := prog_7_method_1_code
def yX5_init : MethodName := ⟨RX5, "<init>", "()V"⟩
abbrev cX5_open : ByteArray := prog_7_method_2_code
def yX5_open : MethodName := ⟨RX5, "open", "([J)V"⟩
abbrev cX5_writerBelow : ByteArray := prog_7_method_3_code
def yX5_writerBelow : MethodName := ⟨RX5, "writerBelow", "(II)I"⟩
abbrev cX5_isPerhaps : ByteArray := prog_7_method_4_code
def yX5_isPerhaps : MethodName := ⟨RX5, "isPerhaps", "(II)Z"⟩
abbrev cX5_numberOf : ByteArray := prog_7_method_5_code
def yX5_numberOf : MethodName := ⟨RX5, "numberOf", "(II)I"⟩
abbrev cX5_valueOf : ByteArray := prog_7_method_6_code
def yX5_valueOf : MethodName := ⟨RX5, "valueOf", "(II)J"⟩
abbrev cX5_valueAfter : ByteArray := prog_7_method_7_code
def yX5_valueAfter : MethodName := ⟨RX5, "valueAfter", "(I)J"⟩
abbrev cX5_publish : ByteArray := prog_7_method_8_code
def yX5_publish : MethodName := ⟨RX5, "publish", "(LParallelUndo$Attempt;I)Z"⟩
abbrev cX5_doubt : ByteArray := prog_7_method_9_code
def yX5_doubt : MethodName := ⟨RX5, "doubt", "(I)V"⟩
def RX6 : String := "ParallelUndo$Workers"
def TX6 : u_T := fun k => match k with
  | 0 => ("ParallelUndo$Workers", "bench", "LParallelUndo$Bench;", true)
  | 1 => ("ParallelUndo$Workers", "conflicts", "LParallelUndo$Conflicts;", true)
  | 2 => ("ParallelUndo$Workers", "turns", "I", false)
  | 3 => ("ParallelUndo$Workers", "looks", "I", false)
  | 4 => ("ParallelUndo$Workers", "undone", "I", false)
  | 5 => ("ParallelUndo$Workers", "givenUp", "I", false)
  | 6 => ("ParallelUndo$Workers", "fell", "Z", false)
  | 7 => ("ParallelUndo$Workers", "size", "I", false)
  | 8 => ("ParallelUndo$Workers", "fallBound", "I", false)
  | 9 => ("ParallelUndo$Workers", "runRow", "I", false)
  | 10 => ("ParallelUndo$Workers", "lookRow", "I", false)
  | 11 => ("ParallelUndo$Workers", "status", "[I", true)
  | 12 => ("ParallelUndo$Workers", "awaited", "[I", true)
  | 13 => ("ParallelUndo$Workers", "number", "[I", true)
  | 14 => ("ParallelUndo$Workers", "task", "[I", true)
  | 15 => ("ParallelUndo$Workers", "taskCall", "[I", true)
  | _ => ("ParallelUndo$Workers", "taskNumber", "[I", true)
def tyX6 : Nat → FieldType := fun k => match k with
  | 0 => .object "ParallelUndo$Bench"
  | 1 => .object "ParallelUndo$Conflicts"
  | 2 => .int
  | 3 => .int
  | 4 => .int
  | 5 => .int
  | 6 => .boolean
  | 7 => .int
  | 8 => .int
  | 9 => .int
  | 10 => .int
  | 11 => .array .int
  | 12 => .array .int
  | 13 => .array .int
  | 14 => .array .int
  | 15 => .array .int
  | _ => .array .int
abbrev wsX60 : List Cond := u_ws RX6 TX6 17
theorem nmX6 : ∀ a, a < 17 → ∀ b, b < 17 → a ≠ b → (TX6 a).2.1 ≠ (TX6 b).2.1 := by decide +kernel
theorem tyX6_ok : ∀ k, k < 17 → parseFieldDescriptor (TX6 k).2.2.1 = some (tyX6 k) := by decide +kernel
abbrev cX6_init : ByteArray := prog_8_method_1_code
def yX6_init : MethodName := ⟨RX6, "<init>", "()V"⟩
abbrev cX6_open : ByteArray := prog_8_method_2_code
def yX6_open : MethodName := ⟨RX6, "open", "(LParallelUndo$Block;[JII)V"⟩
abbrev cX6_work : ByteArray := prog_8_method_3_code
def yX6_work : MethodName := ⟨RX6, "work", "(LParallelUndo$Block;I)V"⟩
abbrev cX6_isDone : ByteArray := prog_8_method_4_code
def yX6_isDone : MethodName := ⟨RX6, "isDone", "()Z"⟩
abbrev cX6_step : ByteArray := prog_8_method_5_code
def yX6_step : MethodName := ⟨RX6, "step", "(ILParallelUndo$Block;)V"⟩
abbrev cX6_takeTask : ByteArray := prog_8_method_6_code
def yX6_takeTask : MethodName := ⟨RX6, "takeTask", "(I)V"⟩
abbrev cX6_giveLook : ByteArray := prog_8_method_7_code
def yX6_giveLook : MethodName := ⟨RX6, "giveLook", "(II)V"⟩
abbrev cX6_giveRun : ByteArray := prog_8_method_8_code
def yX6_giveRun : MethodName := ⟨RX6, "giveRun", "(II)V"⟩
abbrev cX6_goOn : ByteArray := prog_8_method_9_code
def yX6_goOn : MethodName := ⟨RX6, "goOn", "(ILParallelUndo$Block;)V"⟩
abbrev cX6_giveUp : ByteArray := prog_8_method_10_code
def yX6_giveUp : MethodName := ⟨RX6, "giveUp", "(III)V"⟩
abbrev cX6_end : ByteArray := prog_8_method_11_code
def yX6_end : MethodName := ⟨RX6, "end", "(II)V"⟩
abbrev cX6_wakeThoseWaitingFor : ByteArray := prog_8_method_12_code
def yX6_wakeThoseWaitingFor : MethodName := ⟨RX6, "wakeThoseWaitingFor", "(I)V"⟩
abbrev cX6_look : ByteArray := prog_8_method_13_code
def yX6_look : MethodName := ⟨RX6, "look", "(I)V"⟩
abbrev cX6_undo : ByteArray := prog_8_method_14_code
def yX6_undo : MethodName := ⟨RX6, "undo", "(I)V"⟩
abbrev cX6_tell : ByteArray := prog_8_method_15_code
def yX6_tell : MethodName := ⟨RX6, "tell", "(I)I"⟩
def RX7 : String := "ParallelUndo"
def TX7 : u_T := fun k => match k with
  | 0 => ("ParallelUndo", "leaves", "[J", true)
  | 1 => ("ParallelUndo", "block", "LParallelUndo$Block;", true)
  | 2 => ("ParallelUndo", "latest", "LParallelUndo$Workers;", true)
  | 3 => ("ParallelUndo", "trial", "LParallelUndo$Bench;", true)
  | _ => ("ParallelUndo", "fallBound", "I", false)
def tyX7 : Nat → FieldType := fun k => match k with
  | 0 => .array .long
  | 1 => .object "ParallelUndo$Block"
  | 2 => .object "ParallelUndo$Workers"
  | 3 => .object "ParallelUndo$Bench"
  | _ => .int
abbrev wsX70 : List Cond := u_ws RX7 TX7 5
theorem nmX7 : ∀ a, a < 5 → ∀ b, b < 5 → a ≠ b → (TX7 a).2.1 ≠ (TX7 b).2.1 := by decide +kernel
theorem tyX7_ok : ∀ k, k < 5 → parseFieldDescriptor (TX7 k).2.2.1 = some (tyX7 k) := by decide +kernel
abbrev cX7_init : ByteArray := prog_1_method_1_code
def yX7_init : MethodName := ⟨RX7, "<init>", "()V"⟩
abbrev cX7_call : ByteArray := prog_1_method_2_code
def yX7_call : MethodName := ⟨RX7, "call", "()I"⟩
abbrev cX7_act : ByteArray := prog_1_method_3_code
def yX7_act : MethodName := ⟨RX7, "act", "(IIIIJ)I"⟩
abbrev cX7_clear : ByteArray := prog_1_method_4_code
def yX7_clear : MethodName := ⟨RX7, "clear", "()I"⟩
abbrev cX7_leaf : ByteArray := prog_1_method_5_code
def yX7_leaf : MethodName := ⟨RX7, "leaf", "(IJ)Z"⟩
abbrev cX7_bound : ByteArray := prog_1_method_6_code
def yX7_bound : MethodName := ⟨RX7, "bound", "(I)Z"⟩
abbrev cX7_run : ByteArray := prog_1_method_7_code
def yX7_run : MethodName := ⟨RX7, "run", "(II)I"⟩
abbrev cX7_at : ByteArray := prog_1_method_8_code
def yX7_at : MethodName := ⟨RX7, "at", "(I)J"⟩
abbrev cX7_inOrder : ByteArray := prog_1_method_9_code
def yX7_inOrder : MethodName := ⟨RX7, "inOrder", "(I)J"⟩
abbrev cX7_events : ByteArray := prog_1_method_10_code
def yX7_events : MethodName := ⟨RX7, "events", "()I"⟩
abbrev cX7_event : ByteArray := prog_1_method_11_code
def yX7_event : MethodName := ⟨RX7, "event", "(II)J"⟩
abbrev cX7_of : ByteArray := prog_1_method_12_code
def yX7_of : MethodName := ⟨RX7, "of", "(II)I"⟩
abbrev cX7_conflicts : ByteArray := prog_1_method_13_code
def yX7_conflicts : MethodName := ⟨RX7, "conflicts", "()I"⟩
abbrev cX7_conflict : ByteArray := prog_1_method_14_code
def yX7_conflict : MethodName := ⟨RX7, "conflict", "(II)I"⟩
abbrev cX7_told : ByteArray := prog_1_method_15_code
def yX7_told : MethodName := ⟨RX7, "told", "(I)I"⟩
abbrev cX7_isLeaf : ByteArray := prog_1_method_16_code
def yX7_isLeaf : MethodName := ⟨RX7, "isLeaf", "(I)Z"⟩
def RX8 : String := "ParallelUndoModel"
def TX8 : u_T := fun k => match k with
  | 0 => ("ParallelUndoModel", "leaf", "[J", true)
  | 1 => ("ParallelUndoModel", "calls", "I", false)
  | 2 => ("ParallelUndoModel", "bound", "I", false)
  | 3 => ("ParallelUndoModel", "acts", "[I", true)
  | 4 => ("ParallelUndoModel", "kind", "[I", true)
  | 5 => ("ParallelUndoModel", "left", "[I", true)
  | 6 => ("ParallelUndoModel", "right", "[I", true)
  | 7 => ("ParallelUndoModel", "number", "[J", true)
  | 8 => ("ParallelUndoModel", "place", "[I", true)
  | 9 => ("ParallelUndoModel", "register", "[J", true)
  | 10 => ("ParallelUndoModel", "failed", "[Z", true)
  | 11 => ("ParallelUndoModel", "wrote", "[Z", true)
  | 12 => ("ParallelUndoModel", "written", "[J", true)
  | 13 => ("ParallelUndoModel", "kept", "[I", true)
  | 14 => ("ParallelUndoModel", "keptLeaf", "[I", true)
  | 15 => ("ParallelUndoModel", "keptCall", "[I", true)
  | 16 => ("ParallelUndoModel", "keptRun", "[I", true)
  | 17 => ("ParallelUndoModel", "keptValue", "[J", true)
  | 18 => ("ParallelUndoModel", "eventCount", "[I", true)
  | 19 => ("ParallelUndoModel", "eventValue", "[J", true)
  | 20 => ("ParallelUndoModel", "began", "[I", true)
  | 21 => ("ParallelUndoModel", "did", "[I", true)
  | 22 => ("ParallelUndoModel", "allActs", "I", false)
  | 23 => ("ParallelUndoModel", "has", "[Z", true)
  | 24 => ("ParallelUndoModel", "perhaps", "[Z", true)
  | 25 => ("ParallelUndoModel", "value", "[J", true)
  | 26 => ("ParallelUndoModel", "ofRun", "[I", true)
  | 27 => ("ParallelUndoModel", "seenCall", "I", false)
  | 28 => ("ParallelUndoModel", "seenRun", "I", false)
  | 29 => ("ParallelUndoModel", "seenPerhaps", "Z", false)
  | 30 => ("ParallelUndoModel", "seenValue", "J", false)
  | 31 => ("ParallelUndoModel", "how", "[I", true)
  | 32 => ("ParallelUndoModel", "runOf", "[I", true)
  | 33 => ("ParallelUndoModel", "waitsFor", "[I", true)
  | 34 => ("ParallelUndoModel", "task", "[I", true)
  | 35 => ("ParallelUndoModel", "taskCall", "[I", true)
  | 36 => ("ParallelUndoModel", "taskRun", "[I", true)
  | 37 => ("ParallelUndoModel", "nextRun", "I", false)
  | 38 => ("ParallelUndoModel", "nextLook", "I", false)
  | 39 => ("ParallelUndoModel", "ran", "I", false)
  | 40 => ("ParallelUndoModel", "turns", "I", false)
  | 41 => ("ParallelUndoModel", "fell", "Z", false)
  | 42 => ("ParallelUndoModel", "looks", "I", false)
  | 43 => ("ParallelUndoModel", "undone", "I", false)
  | 44 => ("ParallelUndoModel", "givenUp", "I", false)
  | 45 => ("ParallelUndoModel", "groups", "I", false)
  | 46 => ("ParallelUndoModel", "group", "[I", true)
  | 47 => ("ParallelUndoModel", "conflictCount", "I", false)
  | 48 => ("ParallelUndoModel", "conflictCall", "[I", true)
  | 49 => ("ParallelUndoModel", "conflictOther", "[I", true)
  | 50 => ("ParallelUndoModel", "eventAll", "I", false)
  | 51 => ("ParallelUndoModel", "allEvents", "[J", true)
  | 52 => ("ParallelUndoModel", "allEventCalls", "[I", true)
  | 53 => ("ParallelUndoModel", "lastFailed", "[Z", true)
  | 54 => ("ParallelUndoModel", "lastSaw", "[I", true)
  | 55 => ("ParallelUndoModel", "lastWrote", "[I", true)
  | 56 => ("ParallelUndoModel", "lastDid", "[I", true)
  | 57 => ("ParallelUndoModel", "lastBegan", "[I", true)
  | 58 => ("ParallelUndoModel", "plain", "[J", true)
  | 59 => ("ParallelUndoModel", "plainOwn", "[J", true)
  | _ => ("ParallelUndoModel", "plainRegister", "[J", true)
def tyX8 : Nat → FieldType := fun k => match k with
  | 0 => .array .long
  | 1 => .int
  | 2 => .int
  | 3 => .array .int
  | 4 => .array .int
  | 5 => .array .int
  | 6 => .array .int
  | 7 => .array .long
  | 8 => .array .int
  | 9 => .array .long
  | 10 => .array .boolean
  | 11 => .array .boolean
  | 12 => .array .long
  | 13 => .array .int
  | 14 => .array .int
  | 15 => .array .int
  | 16 => .array .int
  | 17 => .array .long
  | 18 => .array .int
  | 19 => .array .long
  | 20 => .array .int
  | 21 => .array .int
  | 22 => .int
  | 23 => .array .boolean
  | 24 => .array .boolean
  | 25 => .array .long
  | 26 => .array .int
  | 27 => .int
  | 28 => .int
  | 29 => .boolean
  | 30 => .long
  | 31 => .array .int
  | 32 => .array .int
  | 33 => .array .int
  | 34 => .array .int
  | 35 => .array .int
  | 36 => .array .int
  | 37 => .int
  | 38 => .int
  | 39 => .int
  | 40 => .int
  | 41 => .boolean
  | 42 => .int
  | 43 => .int
  | 44 => .int
  | 45 => .int
  | 46 => .array .int
  | 47 => .int
  | 48 => .array .int
  | 49 => .array .int
  | 50 => .int
  | 51 => .array .long
  | 52 => .array .int
  | 53 => .array .boolean
  | 54 => .array .int
  | 55 => .array .int
  | 56 => .array .int
  | 57 => .array .int
  | 58 => .array .long
  | 59 => .array .long
  | _ => .array .long
abbrev wsX80 : List Cond := u_ws RX8 TX8 61
theorem nmX8 : ∀ a, a < 61 → ∀ b, b < 61 → a ≠ b → (TX8 a).2.1 ≠ (TX8 b).2.1 := by decide +kernel
theorem tyX8_ok : ∀ k, k < 61 → parseFieldDescriptor (TX8 k).2.2.1 = some (tyX8 k) := by decide +kernel
abbrev cX8_init : ByteArray := prog_10_method_1_code
def yX8_init : MethodName := ⟨RX8, "<init>", "()V"⟩
abbrev cX8_call : ByteArray := prog_10_method_3_code
def yX8_call : MethodName := ⟨RX8, "call", "()I"⟩
abbrev cX8_act : ByteArray := prog_10_method_4_code
def yX8_act : MethodName := ⟨RX8, "act", "(IIIIJ)I"⟩
abbrev cX8_clear : ByteArray := prog_10_method_5_code
def yX8_clear : MethodName := ⟨RX8, "clear", "()I"⟩
abbrev cX8_leaf : ByteArray := prog_10_method_6_code
def yX8_leaf : MethodName := ⟨RX8, "leaf", "(IJ)Z"⟩
abbrev cX8_bound : ByteArray := prog_10_method_7_code
def yX8_bound : MethodName := ⟨RX8, "bound", "(I)Z"⟩
abbrev cX8_begin : ByteArray := prog_10_method_8_code
def yX8_begin : MethodName := ⟨RX8, "begin", "(I)V"⟩
abbrev cX8_see : ByteArray := prog_10_method_9_code
def yX8_see : MethodName := ⟨RX8, "see", "(II)V"⟩
abbrev cX8_leafOf : ByteArray := prog_10_method_10_code
def yX8_leafOf : MethodName := ⟨RX8, "leafOf", "(J)I"⟩
abbrev cX8_doAct : ByteArray := prog_10_method_11_code
def yX8_doAct : MethodName := ⟨RX8, "doAct", "(I)I"⟩
abbrev cX8_isOver : ByteArray := prog_10_method_12_code
def yX8_isOver : MethodName := ⟨RX8, "isOver", "(I)Z"⟩
abbrev cX8_conflict0 : ByteArray := prog_10_method_13_code
def yX8_conflict0 : MethodName := ⟨RX8, "conflict0", "(II)V"⟩
abbrev cX8_run : ByteArray := prog_10_method_14_code
def yX8_run : MethodName := ⟨RX8, "run", "(II)I"⟩
abbrev cX8_isDone : ByteArray := prog_10_method_15_code
def yX8_isDone : MethodName := ⟨RX8, "isDone", "(I)Z"⟩
abbrev cX8_step : ByteArray := prog_10_method_16_code
def yX8_step : MethodName := ⟨RX8, "step", "(I)V"⟩
abbrev cX8_toLook : ByteArray := prog_10_method_17_code
def yX8_toLook : MethodName := ⟨RX8, "toLook", "(II)V"⟩
abbrev cX8_toRun : ByteArray := prog_10_method_18_code
def yX8_toRun : MethodName := ⟨RX8, "toRun", "(II)V"⟩
abbrev cX8_runStep : ByteArray := prog_10_method_19_code
def yX8_runStep : MethodName := ⟨RX8, "runStep", "(I)V"⟩
abbrev cX8_ends : ByteArray := prog_10_method_20_code
def yX8_ends : MethodName := ⟨RX8, "ends", "(II)V"⟩
abbrev cX8_lookStep : ByteArray := prog_10_method_21_code
def yX8_lookStep : MethodName := ⟨RX8, "lookStep", "(I)V"⟩
abbrev cX8_allInOrder : ByteArray := prog_10_method_22_code
def yX8_allInOrder : MethodName := ⟨RX8, "allInOrder", "()V"⟩
abbrev cX8_rootOf : ByteArray := prog_10_method_23_code
def yX8_rootOf : MethodName := ⟨RX8, "rootOf", "(I)I"⟩
abbrev cX8_touches : ByteArray := prog_10_method_24_code
def yX8_touches : MethodName := ⟨RX8, "touches", "(II)Z"⟩
abbrev cX8_settle : ByteArray := prog_10_method_25_code
def yX8_settle : MethodName := ⟨RX8, "settle", "()V"⟩
abbrev cX8_at : ByteArray := prog_10_method_26_code
def yX8_at : MethodName := ⟨RX8, "at", "(I)J"⟩
abbrev cX8_inOrder : ByteArray := prog_10_method_27_code
def yX8_inOrder : MethodName := ⟨RX8, "inOrder", "(I)J"⟩
abbrev cX8_events : ByteArray := prog_10_method_28_code
def yX8_events : MethodName := ⟨RX8, "events", "()I"⟩
abbrev cX8_event : ByteArray := prog_10_method_29_code
def yX8_event : MethodName := ⟨RX8, "event", "(II)J"⟩
abbrev cX8_of : ByteArray := prog_10_method_30_code
def yX8_of : MethodName := ⟨RX8, "of", "(II)I"⟩
abbrev cX8_conflicts : ByteArray := prog_10_method_31_code
def yX8_conflicts : MethodName := ⟨RX8, "conflicts", "()I"⟩
abbrev cX8_conflict : ByteArray := prog_10_method_32_code
def yX8_conflict : MethodName := ⟨RX8, "conflict", "(II)I"⟩
abbrev cX8_told : ByteArray := prog_10_method_33_code
def yX8_told : MethodName := ⟨RX8, "told", "(I)I"⟩
def RJ6 : String := "java/lang/Integer"
def TJ6 : u_T := fun k => match k with
  | _ => ("", "", "", false)
def tyJ6 : Nat → FieldType := fun k => match k with
  | _ => .int
abbrev wsJ60 : List Cond := u_ws RJ6 TJ6 0
theorem nmJ6 : ∀ a, a < 0 → ∀ b, b < 0 → a ≠ b → (TJ6 a).2.1 ≠ (TJ6 b).2.1 := by decide +kernel
theorem tyJ6_ok : ∀ k, k < 0 → parseFieldDescriptor (TJ6 k).2.2.1 = some (tyJ6 k) := by decide +kernel
abbrev cJ6_bitCount_0f7a4 : ByteArray := prog_11_method_49_code
def yJ6_bitCount_0f7a4 : MethodName := ⟨RJ6, "bitCount", "(I)I"⟩
def RJ9 : String := "java/lang/Math"
def TJ9 : u_T := fun k => match k with
  | _ => ("", "", "", false)
def tyJ9 : Nat → FieldType := fun k => match k with
  | _ => .int
abbrev wsJ90 : List Cond := u_ws RJ9 TJ9 0
theorem nmJ9 : ∀ a, a < 0 → ∀ b, b < 0 → a ≠ b → (TJ9 a).2.1 ≠ (TJ9 b).2.1 := by decide +kernel
theorem tyJ9_ok : ∀ k, k < 0 → parseFieldDescriptor (TJ9 k).2.2.1 = some (tyJ9 k) := by decide +kernel
abbrev cJ9_min_7cf53 : ByteArray := prog_12_method_69_code
def yJ9_min_7cf53 : MethodName := ⟨RJ9, "min", "(II)I"⟩
def RJ10 : String := "java/lang/System"
def TJ10 : u_T := fun k => match k with
  | _ => ("", "", "", false)
def tyJ10 : Nat → FieldType := fun k => match k with
  | _ => .int
abbrev wsJ100 : List Cond := u_ws RJ10 TJ10 0
theorem nmJ10 : ∀ a, a < 0 → ∀ b, b < 0 → a ≠ b → (TJ10 a).2.1 ≠ (TJ10 b).2.1 := by decide +kernel
theorem tyJ10_ok : ∀ k, k < 0 → parseFieldDescriptor (TJ10 k).2.2.1 = some (tyJ10 k) := by decide +kernel
def RJ7 : String := "java/util/Arrays"
def TJ7 : u_T := fun k => match k with
  | _ => ("", "", "", false)
def tyJ7 : Nat → FieldType := fun k => match k with
  | _ => .int
abbrev wsJ70 : List Cond := u_ws RJ7 TJ7 0
theorem nmJ7 : ∀ a, a < 0 → ∀ b, b < 0 → a ≠ b → (TJ7 a).2.1 ≠ (TJ7 b).2.1 := by decide +kernel
theorem tyJ7_ok : ∀ k, k < 0 → parseFieldDescriptor (TJ7 k).2.2.1 = some (tyJ7 k) := by decide +kernel
abbrev cJ7_fill_d0a16 : ByteArray := prog_14_method_101_code
def yJ7_fill_d0a16 : MethodName := ⟨RJ7, "fill", "([JJ)V"⟩
abbrev cJ7_fill_53178 : ByteArray := prog_14_method_103_code
def yJ7_fill_53178 : MethodName := ⟨RJ7, "fill", "([II)V"⟩
def RL : String := "ParallelUndoLaw"
abbrev cL_law : ByteArray := code
def yL_law : MethodName := ⟨RL, "law", "([I)Z"⟩
def wsX0_init : List Cond := .code yX0_init cX0_init 2 none :: ([.methodLink RX0 3 objectInit, .instanceMethod objectInit, .code objectInit ⟨#[0xb1]⟩ 1 none, .arrayClass .long, .fieldLink RX0 9 "ParallelUndo$Attempt" "written" "[J", .fieldLink RX0 15 "ParallelUndo$Attempt" "eventValue" "[J", .fieldLink RX0 18 "ParallelUndo$Attempt" "register" "[J", .fieldLink RX0 21 "ParallelUndo$Attempt" "keptValue" "[J", .arrayClass .int, .fieldLink RX0 24 "ParallelUndo$Attempt" "keptLeaf" "[I", .fieldLink RX0 28 "ParallelUndo$Attempt" "keptWriter" "[I", .fieldLink RX0 31 "ParallelUndo$Attempt" "keptNumber" "[I", .fieldLink RX0 34 "ParallelUndo$Attempt" "self" "I"] ++ wsX00)
def wsX0_open : List Cond := .code yX0_open cX0_open 1 none :: ([.fieldLink RX0 38 "ParallelUndo$Attempt" "began" "I", .fieldLink RX0 41 "ParallelUndo$Attempt" "doneInAll" "I"] ++ wsX00)
def wsJ7_fill_d0a16 : List Cond := .code yJ7_fill_d0a16 cJ7_fill_d0a16 5 none :: ([])
def wsX0_begin : List Cond := .code yX0_begin cX0_begin 1 none :: ([.fieldLink RX0 38 "ParallelUndo$Attempt" "began" "I", .fieldLink RX0 44 "ParallelUndo$Attempt" "next" "I", .fieldLink RX0 47 "ParallelUndo$Attempt" "done" "I", .fieldLink RX0 50 "ParallelUndo$Attempt" "failed" "Z", .fieldLink RX0 54 "ParallelUndo$Attempt" "kept" "I", .fieldLink RX0 57 "ParallelUndo$Attempt" "keptMask" "I", .fieldLink RX0 60 "ParallelUndo$Attempt" "writtenMask" "I", .fieldLink RX0 63 "ParallelUndo$Attempt" "eventCount" "I", .fieldLink RX0 18 "ParallelUndo$Attempt" "register" "[J", .methodLink RX0 66 yJ7_fill_d0a16, .static yJ7_fill_d0a16, .initialized RJ7, .code yJ7_fill_d0a16 cJ7_fill_d0a16 5 none] ++ wsX00)
def wsX2_hasAct : List Cond := .code yX2_hasAct cX2_hasAct 3 (some .boolean) :: ([.fieldLink RX2 28 "ParallelUndo$Block" "calls" "I", .fieldLink RX2 9 "ParallelUndo$Block" "acts" "[I"] ++ wsX20)
def wsX0_isOver : List Cond := .code yX0_isOver cX0_isOver 2 (some .boolean) :: ([.fieldLink RX0 50 "ParallelUndo$Attempt" "failed" "Z", .fieldLink RX0 34 "ParallelUndo$Attempt" "self" "I", .fieldLink RX0 44 "ParallelUndo$Attempt" "next" "I", .methodLink RX0 72 yX2_hasAct, .instanceMethod yX2_hasAct, .selects RX2 yX2_hasAct yX2_hasAct, .initialized RX2, .code yX2_hasAct cX2_hasAct 3 (some .boolean), .fieldLink RX2 28 "ParallelUndo$Block" "calls" "I", .fieldLink RX2 9 "ParallelUndo$Block" "acts" "[I"] ++ wsX00 ++ wsX20)
def wsX0_hasWritten : List Cond := .code yX0_hasWritten cX0_hasWritten 2 (some .boolean) :: ([.fieldLink RX0 60 "ParallelUndo$Attempt" "writtenMask" "I"] ++ wsX00)
def wsJ6_bitCount_0f7a4 : List Cond := .code yJ6_bitCount_0f7a4 cJ6_bitCount_0f7a4 1 (some .int) :: ([.constant RJ6 265 (1431655765), .constant RJ6 266 (858993459), .constant RJ6 267 (252645135)])
def wsX0_countWritten : List Cond := .code yX0_countWritten cX0_countWritten 1 (some .int) :: ([.fieldLink RX0 60 "ParallelUndo$Attempt" "writtenMask" "I", .methodLink RX0 78 yJ6_bitCount_0f7a4, .static yJ6_bitCount_0f7a4, .initialized RJ6, .code yJ6_bitCount_0f7a4 cJ6_bitCount_0f7a4 1 (some .int), .constant RJ6 265 (1431655765), .constant RJ6 266 (858993459), .constant RJ6 267 (252645135)] ++ wsX00)
def wsX0_touched : List Cond := .code yX0_touched cX0_touched 2 (some .boolean) :: ([.fieldLink RX0 57 "ParallelUndo$Attempt" "keptMask" "I", .fieldLink RX0 60 "ParallelUndo$Attempt" "writtenMask" "I"] ++ wsX00)
def wsX0_leafAt : List Cond := .code yX0_leafAt cX0_leafAt 4 (some .int) :: ([.fieldLink RX0 18 "ParallelUndo$Attempt" "register" "[J", .constantLong RX0 114 (31)] ++ wsX00)
def wsX5_writerBelow : List Cond := .code yX5_writerBelow cX5_writerBelow 4 (some .int) :: ([.fieldLink RX5 15 "ParallelUndo$Table" "state" "[I"] ++ wsX50)
def wsX5_isPerhaps : List Cond := .code yX5_isPerhaps cX5_isPerhaps 3 (some .boolean) :: ([.fieldLink RX5 15 "ParallelUndo$Table" "state" "[I"] ++ wsX50)
def wsX5_numberOf : List Cond := .code yX5_numberOf cX5_numberOf 3 (some .int) :: ([.fieldLink RX5 19 "ParallelUndo$Table" "number" "[I"] ++ wsX50)
def wsX5_valueOf : List Cond := .code yX5_valueOf cX5_valueOf 3 (some .long) :: ([.fieldLink RX5 9 "ParallelUndo$Table" "before" "[J", .fieldLink RX5 22 "ParallelUndo$Table" "value" "[J"] ++ wsX50)
def wsX0_keep : List Cond := .code yX0_keep cX0_keep 6 none :: ([.fieldLink RX0 54 "ParallelUndo$Attempt" "kept" "I", .fieldLink RX0 24 "ParallelUndo$Attempt" "keptLeaf" "[I", .fieldLink RX0 28 "ParallelUndo$Attempt" "keptWriter" "[I", .fieldLink RX0 31 "ParallelUndo$Attempt" "keptNumber" "[I", .fieldLink RX0 21 "ParallelUndo$Attempt" "keptValue" "[J", .fieldLink RX0 57 "ParallelUndo$Attempt" "keptMask" "I"] ++ wsX00)
def wsX0_read_r1 : List Cond := [Cond.fieldLink RX0 18 "ParallelUndo$Attempt" "register" "[J", Cond.fieldLink RX0 9 "ParallelUndo$Attempt" "written" "[J", Cond.fieldLink RX0 57 "ParallelUndo$Attempt" "keptMask" "I", Cond.fieldLink RX0 34 "ParallelUndo$Attempt" "self" "I", Cond.fieldLink RX0 21 "ParallelUndo$Attempt" "keptValue" "[J", Cond.methodLink RX0 116 yX0_hasWritten, Cond.instanceMethod yX0_hasWritten, Cond.selects RX0 yX0_hasWritten yX0_hasWritten, Cond.initialized RX0, Cond.code yX0_hasWritten cX0_hasWritten 2 (some .boolean), Cond.fieldLink RX0 60 "ParallelUndo$Attempt" "writtenMask" "I", Cond.methodLink RX0 120 yX5_writerBelow, Cond.instanceMethod yX5_writerBelow, Cond.selects RX5 yX5_writerBelow yX5_writerBelow, Cond.initialized RX5, Cond.code yX5_writerBelow cX5_writerBelow 4 (some .int), Cond.fieldLink RX5 15 "ParallelUndo$Table" "state" "[I", Cond.methodLink RX0 126 yX5_isPerhaps, Cond.instanceMethod yX5_isPerhaps, Cond.selects RX5 yX5_isPerhaps yX5_isPerhaps, Cond.code yX5_isPerhaps cX5_isPerhaps 3 (some .boolean), Cond.methodLink RX0 129 yX5_numberOf, Cond.instanceMethod yX5_numberOf, Cond.selects RX5 yX5_numberOf yX5_numberOf]
def wsX0_read_r2 : List Cond := [Cond.code yX5_numberOf cX5_numberOf 3 (some .int), Cond.fieldLink RX5 19 "ParallelUndo$Table" "number" "[I", Cond.methodLink RX0 132 yX5_valueOf, Cond.instanceMethod yX5_valueOf, Cond.selects RX5 yX5_valueOf yX5_valueOf, Cond.code yX5_valueOf cX5_valueOf 3 (some .long), Cond.fieldLink RX5 9 "ParallelUndo$Table" "before" "[J", Cond.fieldLink RX5 22 "ParallelUndo$Table" "value" "[J", Cond.methodLink RX0 136 yX0_keep, Cond.instanceMethod yX0_keep, Cond.selects RX0 yX0_keep yX0_keep, Cond.code yX0_keep cX0_keep 6 none, Cond.fieldLink RX0 54 "ParallelUndo$Attempt" "kept" "I", Cond.fieldLink RX0 24 "ParallelUndo$Attempt" "keptLeaf" "[I", Cond.fieldLink RX0 28 "ParallelUndo$Attempt" "keptWriter" "[I", Cond.fieldLink RX0 31 "ParallelUndo$Attempt" "keptNumber" "[I"]
def wsX0_read : List Cond := .code yX0_read cX0_read 5 (some .int) :: ((wsX0_read_r1 ++ wsX0_read_r2) ++ wsX00 ++ wsX50)
def wsX0_write : List Cond := .code yX0_write cX0_write 4 none :: ([.fieldLink RX0 9 "ParallelUndo$Attempt" "written" "[J", .fieldLink RX0 60 "ParallelUndo$Attempt" "writtenMask" "I"] ++ wsX00)
def wsX0_raise : List Cond := .code yX0_raise cX0_raise 3 none :: ([.fieldLink RX0 63 "ParallelUndo$Attempt" "eventCount" "I", .fieldLink RX0 15 "ParallelUndo$Attempt" "eventValue" "[J"] ++ wsX00)
def wsX0_fail : List Cond := .code yX0_fail cX0_fail 1 none :: ([.fieldLink RX0 50 "ParallelUndo$Attempt" "failed" "Z", .fieldLink RX0 60 "ParallelUndo$Attempt" "writtenMask" "I", .fieldLink RX0 63 "ParallelUndo$Attempt" "eventCount" "I"] ++ wsX00)
def wsX0_perform_r1 : List Cond := [Cond.fieldLink RX0 18 "ParallelUndo$Attempt" "register" "[J", Cond.fieldLink RX0 44 "ParallelUndo$Attempt" "next" "I", Cond.methodLink RX0 102 yX0_leafAt, Cond.instanceMethod yX0_leafAt, Cond.selects RX0 yX0_leafAt yX0_leafAt, Cond.initialized RX0, Cond.code yX0_leafAt cX0_leafAt 4 (some .int), Cond.constantLong RX0 114 (31), Cond.methodLink RX0 139 yX0_write, Cond.instanceMethod yX0_write, Cond.selects RX0 yX0_write yX0_write, Cond.code yX0_write cX0_write 4 none, Cond.fieldLink RX0 9 "ParallelUndo$Attempt" "written" "[J", Cond.fieldLink RX0 60 "ParallelUndo$Attempt" "writtenMask" "I", Cond.methodLink RX0 143 yX0_raise, Cond.instanceMethod yX0_raise, Cond.selects RX0 yX0_raise yX0_raise, Cond.code yX0_raise cX0_raise 3 none, Cond.fieldLink RX0 63 "ParallelUndo$Attempt" "eventCount" "I", Cond.fieldLink RX0 15 "ParallelUndo$Attempt" "eventValue" "[J", Cond.methodLink RX0 147 yX0_fail, Cond.instanceMethod yX0_fail, Cond.selects RX0 yX0_fail yX0_fail, Cond.code yX0_fail cX0_fail 1 none]
def wsX0_perform_r2 : List Cond := [Cond.fieldLink RX0 50 "ParallelUndo$Attempt" "failed" "Z"]
def wsX0_perform : List Cond := .code yX0_perform cX0_perform 6 none :: ((wsX0_perform_r1 ++ wsX0_perform_r2) ++ wsX00)
def wsX0_doNext_r1 : List Cond := [Cond.fieldLink RX0 34 "ParallelUndo$Attempt" "self" "I", Cond.fieldLink RX0 44 "ParallelUndo$Attempt" "next" "I", Cond.fieldLink RX0 88 "ParallelUndo$Block" "kind" "[I", Cond.fieldLink RX0 91 "ParallelUndo$Block" "first" "[I", Cond.fieldLink RX0 94 "ParallelUndo$Block" "second" "[I", Cond.fieldLink RX0 97 "ParallelUndo$Block" "value" "[J", Cond.fieldLink RX0 47 "ParallelUndo$Attempt" "done" "I", Cond.fieldLink RX0 41 "ParallelUndo$Attempt" "doneInAll" "I", Cond.methodLink RX0 84 yX0_isOver, Cond.instanceMethod yX0_isOver, Cond.selects RX0 yX0_isOver yX0_isOver, Cond.initialized RX0, Cond.code yX0_isOver cX0_isOver 2 (some .boolean), Cond.fieldLink RX0 50 "ParallelUndo$Attempt" "failed" "Z", Cond.methodLink RX0 72 yX2_hasAct, Cond.instanceMethod yX2_hasAct, Cond.selects RX2 yX2_hasAct yX2_hasAct, Cond.initialized RX2, Cond.code yX2_hasAct cX2_hasAct 3 (some .boolean), Cond.fieldLink RX2 28 "ParallelUndo$Block" "calls" "I", Cond.fieldLink RX2 9 "ParallelUndo$Block" "acts" "[I", Cond.methodLink RX0 102 yX0_leafAt, Cond.instanceMethod yX0_leafAt, Cond.selects RX0 yX0_leafAt yX0_leafAt]
def wsX0_doNext_r2 : List Cond := [Cond.code yX0_leafAt cX0_leafAt 4 (some .int), Cond.fieldLink RX0 18 "ParallelUndo$Attempt" "register" "[J", Cond.constantLong RX0 114 (31), Cond.methodLink RX0 106 yX0_read, Cond.instanceMethod yX0_read, Cond.selects RX0 yX0_read yX0_read, Cond.code yX0_read cX0_read 5 (some .int), Cond.fieldLink RX0 9 "ParallelUndo$Attempt" "written" "[J", Cond.fieldLink RX0 57 "ParallelUndo$Attempt" "keptMask" "I", Cond.fieldLink RX0 21 "ParallelUndo$Attempt" "keptValue" "[J", Cond.methodLink RX0 116 yX0_hasWritten, Cond.instanceMethod yX0_hasWritten, Cond.selects RX0 yX0_hasWritten yX0_hasWritten, Cond.code yX0_hasWritten cX0_hasWritten 2 (some .boolean), Cond.fieldLink RX0 60 "ParallelUndo$Attempt" "writtenMask" "I", Cond.methodLink RX0 120 yX5_writerBelow, Cond.instanceMethod yX5_writerBelow, Cond.selects RX5 yX5_writerBelow yX5_writerBelow, Cond.initialized RX5, Cond.code yX5_writerBelow cX5_writerBelow 4 (some .int), Cond.fieldLink RX5 15 "ParallelUndo$Table" "state" "[I", Cond.methodLink RX0 126 yX5_isPerhaps, Cond.instanceMethod yX5_isPerhaps, Cond.selects RX5 yX5_isPerhaps yX5_isPerhaps]
def wsX0_doNext_r3 : List Cond := [Cond.code yX5_isPerhaps cX5_isPerhaps 3 (some .boolean), Cond.methodLink RX0 129 yX5_numberOf, Cond.instanceMethod yX5_numberOf, Cond.selects RX5 yX5_numberOf yX5_numberOf, Cond.code yX5_numberOf cX5_numberOf 3 (some .int), Cond.fieldLink RX5 19 "ParallelUndo$Table" "number" "[I", Cond.methodLink RX0 132 yX5_valueOf, Cond.instanceMethod yX5_valueOf, Cond.selects RX5 yX5_valueOf yX5_valueOf, Cond.code yX5_valueOf cX5_valueOf 3 (some .long), Cond.fieldLink RX5 9 "ParallelUndo$Table" "before" "[J", Cond.fieldLink RX5 22 "ParallelUndo$Table" "value" "[J", Cond.methodLink RX0 136 yX0_keep, Cond.instanceMethod yX0_keep, Cond.selects RX0 yX0_keep yX0_keep, Cond.code yX0_keep cX0_keep 6 none, Cond.fieldLink RX0 54 "ParallelUndo$Attempt" "kept" "I", Cond.fieldLink RX0 24 "ParallelUndo$Attempt" "keptLeaf" "[I", Cond.fieldLink RX0 28 "ParallelUndo$Attempt" "keptWriter" "[I", Cond.fieldLink RX0 31 "ParallelUndo$Attempt" "keptNumber" "[I", Cond.methodLink RX0 110 yX0_perform, Cond.instanceMethod yX0_perform, Cond.selects RX0 yX0_perform yX0_perform, Cond.code yX0_perform cX0_perform 6 none]
def wsX0_doNext_r4 : List Cond := [Cond.methodLink RX0 139 yX0_write, Cond.instanceMethod yX0_write, Cond.selects RX0 yX0_write yX0_write, Cond.code yX0_write cX0_write 4 none, Cond.methodLink RX0 143 yX0_raise, Cond.instanceMethod yX0_raise, Cond.selects RX0 yX0_raise yX0_raise, Cond.code yX0_raise cX0_raise 3 none, Cond.fieldLink RX0 63 "ParallelUndo$Attempt" "eventCount" "I", Cond.fieldLink RX0 15 "ParallelUndo$Attempt" "eventValue" "[J", Cond.methodLink RX0 147 yX0_fail, Cond.instanceMethod yX0_fail, Cond.selects RX0 yX0_fail yX0_fail, Cond.code yX0_fail cX0_fail 1 none]
def wsX0_doNext : List Cond := .code yX0_doNext cX0_doNext 10 (some .int) :: ((wsX0_doNext_r1 ++ (wsX0_doNext_r2 ++ (wsX0_doNext_r3 ++ wsX0_doNext_r4))) ++ wsX00 ++ wsX20 ++ wsX50)
def wsX0_firstChanged : List Cond := .code yX0_firstChanged cX0_firstChanged 5 (some .int) :: ([.fieldLink RX0 54 "ParallelUndo$Attempt" "kept" "I", .fieldLink RX0 24 "ParallelUndo$Attempt" "keptLeaf" "[I", .fieldLink RX0 34 "ParallelUndo$Attempt" "self" "I", .fieldLink RX0 28 "ParallelUndo$Attempt" "keptWriter" "[I", .fieldLink RX0 31 "ParallelUndo$Attempt" "keptNumber" "[I", .methodLink RX0 120 yX5_writerBelow, .instanceMethod yX5_writerBelow, .selects RX5 yX5_writerBelow yX5_writerBelow, .initialized RX5, .code yX5_writerBelow cX5_writerBelow 4 (some .int), .fieldLink RX5 15 "ParallelUndo$Table" "state" "[I", .methodLink RX0 126 yX5_isPerhaps, .instanceMethod yX5_isPerhaps, .selects RX5 yX5_isPerhaps yX5_isPerhaps, .code yX5_isPerhaps cX5_isPerhaps 3 (some .boolean), .methodLink RX0 129 yX5_numberOf, .instanceMethod yX5_numberOf, .selects RX5 yX5_numberOf yX5_numberOf, .code yX5_numberOf cX5_numberOf 3 (some .int), .fieldLink RX5 19 "ParallelUndo$Table" "number" "[I"] ++ wsX00 ++ wsX50)
def wsX5_init : List Cond := .code yX5_init cX5_init 1 none :: ([.methodLink RX5 3 objectInit, .instanceMethod objectInit, .code objectInit ⟨#[0xb1]⟩ 1 none, .arrayClass .long, .fieldLink RX5 9 "ParallelUndo$Table" "before" "[J", .arrayClass .int, .fieldLink RX5 15 "ParallelUndo$Table" "state" "[I", .fieldLink RX5 19 "ParallelUndo$Table" "number" "[I", .fieldLink RX5 22 "ParallelUndo$Table" "value" "[J"] ++ wsX50)
def wsX1_init_r1 : List Cond := [Cond.methodLink RX1 3 objectInit, Cond.instanceMethod objectInit, Cond.code objectInit ⟨#[0xb1]⟩ 1 none, Cond.classLink RX1 9 RX5, Cond.instantiable RX5 4, Cond.initialized RX5, Cond.fieldLink RX1 12 "ParallelUndo$Bench" "table" "LParallelUndo$Table;", Cond.classLink RX1 18 RX0, Cond.fieldLink RX1 20 "ParallelUndo$Bench" "attempts" "[LParallelUndo$Attempt;", Cond.instantiable RX0 18, Cond.initialized RX0, Cond.instanceMethod yX5_init, Cond.code yX5_init cX5_init 1 none, Cond.methodLink RX5 3 objectInit, Cond.arrayClass .long, Cond.fieldLink RX5 9 "ParallelUndo$Table" "before" "[J", Cond.arrayClass .int, Cond.fieldLink RX5 15 "ParallelUndo$Table" "state" "[I", Cond.fieldLink RX5 19 "ParallelUndo$Table" "number" "[I", Cond.fieldLink RX5 22 "ParallelUndo$Table" "value" "[J", Cond.methodLink RX1 24 yX0_init, Cond.instanceMethod yX0_init, Cond.code yX0_init cX0_init 2 none, Cond.methodLink RX0 3 objectInit]
def wsX1_init_r2 : List Cond := [Cond.fieldLink RX0 9 "ParallelUndo$Attempt" "written" "[J", Cond.fieldLink RX0 15 "ParallelUndo$Attempt" "eventValue" "[J", Cond.fieldLink RX0 18 "ParallelUndo$Attempt" "register" "[J", Cond.fieldLink RX0 21 "ParallelUndo$Attempt" "keptValue" "[J", Cond.fieldLink RX0 24 "ParallelUndo$Attempt" "keptLeaf" "[I", Cond.fieldLink RX0 28 "ParallelUndo$Attempt" "keptWriter" "[I", Cond.fieldLink RX0 31 "ParallelUndo$Attempt" "keptNumber" "[I", Cond.fieldLink RX0 34 "ParallelUndo$Attempt" "self" "I"]
def wsX1_init : List Cond := .code yX1_init cX1_init 2 none :: ((wsX1_init_r1 ++ wsX1_init_r2) ++ wsX50 ++ wsX10 ++ wsX00)
def wsJ7_fill_53178 : List Cond := .code yJ7_fill_53178 cJ7_fill_53178 4 none :: ([])
def wsX5_open : List Cond := .code yX5_open cX5_open 2 none :: ([.fieldLink RX5 9 "ParallelUndo$Table" "before" "[J", .methodLink RX5 25 arraycopyName, .native arraycopyName, .static arraycopyName, .initialized "java/lang/System", .fieldLink RX5 15 "ParallelUndo$Table" "state" "[I", .methodLink RX5 31 yJ7_fill_53178, .static yJ7_fill_53178, .initialized RJ7, .code yJ7_fill_53178 cJ7_fill_53178 4 none] ++ wsX50)
def wsX1_open_r1 : List Cond := [Cond.fieldLink RX1 27 "ParallelUndo$Block" "calls" "I", Cond.fieldLink RX1 33 "ParallelUndo$Bench" "calls" "I", Cond.fieldLink RX1 12 "ParallelUndo$Bench" "table" "LParallelUndo$Table;", Cond.fieldLink RX1 20 "ParallelUndo$Bench" "attempts" "[LParallelUndo$Attempt;", Cond.methodLink RX1 34 yX5_open, Cond.instanceMethod yX5_open, Cond.selects RX5 yX5_open yX5_open, Cond.initialized RX5, Cond.code yX5_open cX5_open 2 none, Cond.fieldLink RX5 9 "ParallelUndo$Table" "before" "[J", Cond.methodLink RX5 25 arraycopyName, Cond.native arraycopyName, Cond.static arraycopyName, Cond.initialized "java/lang/System", Cond.fieldLink RX5 15 "ParallelUndo$Table" "state" "[I", Cond.methodLink RX5 31 yJ7_fill_53178, Cond.static yJ7_fill_53178, Cond.initialized RJ7, Cond.code yJ7_fill_53178 cJ7_fill_53178 4 none, Cond.methodLink RX1 38 yX0_open, Cond.instanceMethod yX0_open, Cond.selects RX0 yX0_open yX0_open, Cond.initialized RX0, Cond.code yX0_open cX0_open 1 none]
def wsX1_open_r2 : List Cond := [Cond.fieldLink RX0 38 "ParallelUndo$Attempt" "began" "I", Cond.fieldLink RX0 41 "ParallelUndo$Attempt" "doneInAll" "I"]
def wsX1_open : List Cond := .code yX1_open cX1_open 4 none :: ((wsX1_open_r1 ++ wsX1_open_r2) ++ wsX20 ++ wsX10 ++ wsX50 ++ wsX00)
def wsX5_publish : List Cond := .code yX5_publish cX5_publish 6 (some .boolean) :: ([.fieldLink RX5 45 "ParallelUndo$Attempt" "self" "I", .fieldLink RX5 15 "ParallelUndo$Table" "state" "[I", .fieldLink RX5 19 "ParallelUndo$Table" "number" "[I", .fieldLink RX5 22 "ParallelUndo$Table" "value" "[J", .fieldLink RX5 55 "ParallelUndo$Attempt" "written" "[J", .methodLink RX5 51 yX0_hasWritten, .instanceMethod yX0_hasWritten, .selects RX0 yX0_hasWritten yX0_hasWritten, .initialized RX0, .code yX0_hasWritten cX0_hasWritten 2 (some .boolean), .fieldLink RX0 60 "ParallelUndo$Attempt" "writtenMask" "I"] ++ wsX00 ++ wsX50)
def wsX1_runOneByOne_r1 : List Cond := [Cond.fieldLink RX1 33 "ParallelUndo$Bench" "calls" "I", Cond.fieldLink RX1 20 "ParallelUndo$Bench" "attempts" "[LParallelUndo$Attempt;", Cond.fieldLink RX1 12 "ParallelUndo$Bench" "table" "LParallelUndo$Table;", Cond.methodLink RX1 40 yX0_begin, Cond.instanceMethod yX0_begin, Cond.selects RX0 yX0_begin yX0_begin, Cond.initialized RX0, Cond.code yX0_begin cX0_begin 1 none, Cond.fieldLink RX0 38 "ParallelUndo$Attempt" "began" "I", Cond.fieldLink RX0 44 "ParallelUndo$Attempt" "next" "I", Cond.fieldLink RX0 47 "ParallelUndo$Attempt" "done" "I", Cond.fieldLink RX0 50 "ParallelUndo$Attempt" "failed" "Z", Cond.fieldLink RX0 54 "ParallelUndo$Attempt" "kept" "I", Cond.fieldLink RX0 57 "ParallelUndo$Attempt" "keptMask" "I", Cond.fieldLink RX0 60 "ParallelUndo$Attempt" "writtenMask" "I", Cond.fieldLink RX0 63 "ParallelUndo$Attempt" "eventCount" "I", Cond.fieldLink RX0 18 "ParallelUndo$Attempt" "register" "[J", Cond.methodLink RX0 66 yJ7_fill_d0a16, Cond.static yJ7_fill_d0a16, Cond.initialized RJ7, Cond.code yJ7_fill_d0a16 cJ7_fill_d0a16 5 none, Cond.methodLink RX1 43 yX0_isOver, Cond.instanceMethod yX0_isOver, Cond.selects RX0 yX0_isOver yX0_isOver]
def wsX1_runOneByOne_r2 : List Cond := [Cond.code yX0_isOver cX0_isOver 2 (some .boolean), Cond.fieldLink RX0 34 "ParallelUndo$Attempt" "self" "I", Cond.methodLink RX0 72 yX2_hasAct, Cond.instanceMethod yX2_hasAct, Cond.selects RX2 yX2_hasAct yX2_hasAct, Cond.initialized RX2, Cond.code yX2_hasAct cX2_hasAct 3 (some .boolean), Cond.fieldLink RX2 28 "ParallelUndo$Block" "calls" "I", Cond.fieldLink RX2 9 "ParallelUndo$Block" "acts" "[I", Cond.methodLink RX1 47 yX0_doNext, Cond.instanceMethod yX0_doNext, Cond.selects RX0 yX0_doNext yX0_doNext, Cond.code yX0_doNext cX0_doNext 10 (some .int), Cond.fieldLink RX0 88 "ParallelUndo$Block" "kind" "[I", Cond.fieldLink RX0 91 "ParallelUndo$Block" "first" "[I", Cond.fieldLink RX0 94 "ParallelUndo$Block" "second" "[I", Cond.fieldLink RX0 97 "ParallelUndo$Block" "value" "[J", Cond.fieldLink RX0 41 "ParallelUndo$Attempt" "doneInAll" "I", Cond.methodLink RX0 84 yX0_isOver, Cond.methodLink RX0 102 yX0_leafAt, Cond.instanceMethod yX0_leafAt, Cond.selects RX0 yX0_leafAt yX0_leafAt, Cond.code yX0_leafAt cX0_leafAt 4 (some .int), Cond.constantLong RX0 114 (31)]
def wsX1_runOneByOne_r3 : List Cond := [Cond.methodLink RX0 106 yX0_read, Cond.instanceMethod yX0_read, Cond.selects RX0 yX0_read yX0_read, Cond.code yX0_read cX0_read 5 (some .int), Cond.fieldLink RX0 9 "ParallelUndo$Attempt" "written" "[J", Cond.fieldLink RX0 21 "ParallelUndo$Attempt" "keptValue" "[J", Cond.methodLink RX0 116 yX0_hasWritten, Cond.instanceMethod yX0_hasWritten, Cond.selects RX0 yX0_hasWritten yX0_hasWritten, Cond.code yX0_hasWritten cX0_hasWritten 2 (some .boolean), Cond.methodLink RX0 120 yX5_writerBelow, Cond.instanceMethod yX5_writerBelow, Cond.selects RX5 yX5_writerBelow yX5_writerBelow, Cond.initialized RX5, Cond.code yX5_writerBelow cX5_writerBelow 4 (some .int), Cond.fieldLink RX5 15 "ParallelUndo$Table" "state" "[I", Cond.methodLink RX0 126 yX5_isPerhaps, Cond.instanceMethod yX5_isPerhaps, Cond.selects RX5 yX5_isPerhaps yX5_isPerhaps, Cond.code yX5_isPerhaps cX5_isPerhaps 3 (some .boolean), Cond.methodLink RX0 129 yX5_numberOf, Cond.instanceMethod yX5_numberOf, Cond.selects RX5 yX5_numberOf yX5_numberOf, Cond.code yX5_numberOf cX5_numberOf 3 (some .int)]
def wsX1_runOneByOne_r4 : List Cond := [Cond.fieldLink RX5 19 "ParallelUndo$Table" "number" "[I", Cond.methodLink RX0 132 yX5_valueOf, Cond.instanceMethod yX5_valueOf, Cond.selects RX5 yX5_valueOf yX5_valueOf, Cond.code yX5_valueOf cX5_valueOf 3 (some .long), Cond.fieldLink RX5 9 "ParallelUndo$Table" "before" "[J", Cond.fieldLink RX5 22 "ParallelUndo$Table" "value" "[J", Cond.methodLink RX0 136 yX0_keep, Cond.instanceMethod yX0_keep, Cond.selects RX0 yX0_keep yX0_keep, Cond.code yX0_keep cX0_keep 6 none, Cond.fieldLink RX0 24 "ParallelUndo$Attempt" "keptLeaf" "[I", Cond.fieldLink RX0 28 "ParallelUndo$Attempt" "keptWriter" "[I", Cond.fieldLink RX0 31 "ParallelUndo$Attempt" "keptNumber" "[I", Cond.methodLink RX0 110 yX0_perform, Cond.instanceMethod yX0_perform, Cond.selects RX0 yX0_perform yX0_perform, Cond.code yX0_perform cX0_perform 6 none, Cond.methodLink RX0 139 yX0_write, Cond.instanceMethod yX0_write, Cond.selects RX0 yX0_write yX0_write, Cond.code yX0_write cX0_write 4 none, Cond.methodLink RX0 143 yX0_raise, Cond.instanceMethod yX0_raise]
def wsX1_runOneByOne_r5 : List Cond := [Cond.selects RX0 yX0_raise yX0_raise, Cond.code yX0_raise cX0_raise 3 none, Cond.fieldLink RX0 15 "ParallelUndo$Attempt" "eventValue" "[J", Cond.methodLink RX0 147 yX0_fail, Cond.instanceMethod yX0_fail, Cond.selects RX0 yX0_fail yX0_fail, Cond.code yX0_fail cX0_fail 1 none, Cond.methodLink RX1 51 yX5_publish, Cond.instanceMethod yX5_publish, Cond.selects RX5 yX5_publish yX5_publish, Cond.code yX5_publish cX5_publish 6 (some .boolean), Cond.fieldLink RX5 45 "ParallelUndo$Attempt" "self" "I", Cond.fieldLink RX5 55 "ParallelUndo$Attempt" "written" "[J", Cond.methodLink RX5 51 yX0_hasWritten]
def wsX1_runOneByOne : List Cond := .code yX1_runOneByOne cX1_runOneByOne 5 none :: ((wsX1_runOneByOne_r1 ++ (wsX1_runOneByOne_r2 ++ (wsX1_runOneByOne_r3 ++ (wsX1_runOneByOne_r4 ++ wsX1_runOneByOne_r5)))) ++ wsX10 ++ wsX00 ++ wsX20 ++ wsX50)
def wsX1_joinGroups : List Cond := .code yX1_joinGroups cX1_joinGroups 6 none :: ([.methodLink RX1 69 Lib.Math.min.name, .static Lib.Math.min.name, .initialized "java/lang/Math", .code Lib.Math.min.name Lib.Math.min.code 2 (some .int), .fieldLink RX1 33 "ParallelUndo$Bench" "calls" "I", .fieldLink RX1 20 "ParallelUndo$Bench" "attempts" "[LParallelUndo$Attempt;", .fieldLink RX1 55 "ParallelUndo$Attempt" "group" "I"] ++ wsX10 ++ wsX00)
def wsX1_joinTouching : List Cond := .code yX1_joinTouching cX1_joinTouching 4 none :: ([.fieldLink RX1 33 "ParallelUndo$Bench" "calls" "I", .fieldLink RX1 20 "ParallelUndo$Bench" "attempts" "[LParallelUndo$Attempt;", .fieldLink RX1 55 "ParallelUndo$Attempt" "group" "I", .methodLink RX1 61 yX0_touched, .instanceMethod yX0_touched, .selects RX0 yX0_touched yX0_touched, .initialized RX0, .code yX0_touched cX0_touched 2 (some .boolean), .fieldLink RX0 57 "ParallelUndo$Attempt" "keptMask" "I", .fieldLink RX0 60 "ParallelUndo$Attempt" "writtenMask" "I", .methodLink RX1 65 yX1_joinGroups, .instanceMethod yX1_joinGroups, .selects RX1 yX1_joinGroups yX1_joinGroups, .initialized RX1, .code yX1_joinGroups cX1_joinGroups 6 none, .methodLink RX1 69 Lib.Math.min.name, .static Lib.Math.min.name, .initialized "java/lang/Math", .code Lib.Math.min.name Lib.Math.min.code 2 (some .int)] ++ wsX10 ++ wsX00)
def wsX1_formGroups : List Cond := .code yX1_formGroups cX1_formGroups 2 none :: ([.fieldLink RX1 33 "ParallelUndo$Bench" "calls" "I", .fieldLink RX1 20 "ParallelUndo$Bench" "attempts" "[LParallelUndo$Attempt;", .fieldLink RX1 55 "ParallelUndo$Attempt" "group" "I", .methodLink RX1 58 yX1_joinTouching, .instanceMethod yX1_joinTouching, .selects RX1 yX1_joinTouching yX1_joinTouching, .initialized RX1, .code yX1_joinTouching cX1_joinTouching 4 none, .methodLink RX1 61 yX0_touched, .instanceMethod yX0_touched, .selects RX0 yX0_touched yX0_touched, .initialized RX0, .code yX0_touched cX0_touched 2 (some .boolean), .fieldLink RX0 57 "ParallelUndo$Attempt" "keptMask" "I", .fieldLink RX0 60 "ParallelUndo$Attempt" "writtenMask" "I", .methodLink RX1 65 yX1_joinGroups, .instanceMethod yX1_joinGroups, .selects RX1 yX1_joinGroups yX1_joinGroups, .code yX1_joinGroups cX1_joinGroups 6 none, .methodLink RX1 69 Lib.Math.min.name, .static Lib.Math.min.name, .initialized "java/lang/Math", .code Lib.Math.min.name Lib.Math.min.code 2 (some .int)] ++ wsX10 ++ wsX00)
def wsX1_countGroups : List Cond := .code yX1_countGroups cX1_countGroups 3 (some .int) :: ([.fieldLink RX1 33 "ParallelUndo$Bench" "calls" "I", .fieldLink RX1 20 "ParallelUndo$Bench" "attempts" "[LParallelUndo$Attempt;", .fieldLink RX1 55 "ParallelUndo$Attempt" "group" "I"] ++ wsX10 ++ wsX00)
def wsX1_countActs : List Cond := .code yX1_countActs cX1_countActs 3 (some .int) :: ([.fieldLink RX1 33 "ParallelUndo$Bench" "calls" "I", .fieldLink RX1 20 "ParallelUndo$Bench" "attempts" "[LParallelUndo$Attempt;", .fieldLink RX1 75 "ParallelUndo$Attempt" "doneInAll" "I"] ++ wsX10 ++ wsX00)
def wsX1_countEvents : List Cond := .code yX1_countEvents cX1_countEvents 3 (some .int) :: ([.fieldLink RX1 33 "ParallelUndo$Bench" "calls" "I", .fieldLink RX1 20 "ParallelUndo$Bench" "attempts" "[LParallelUndo$Attempt;", .fieldLink RX1 78 "ParallelUndo$Attempt" "eventCount" "I"] ++ wsX10 ++ wsX00)
def wsX1_tellEvent : List Cond := .code yX1_tellEvent cX1_tellEvent 6 (some .long) :: ([.fieldLink RX1 33 "ParallelUndo$Bench" "calls" "I", .fieldLink RX1 20 "ParallelUndo$Bench" "attempts" "[LParallelUndo$Attempt;", .fieldLink RX1 78 "ParallelUndo$Attempt" "eventCount" "I", .fieldLink RX1 81 "ParallelUndo$Attempt" "eventValue" "[J"] ++ wsX10 ++ wsX00)
def wsX1_tellCall : List Cond := .code yX1_tellCall cX1_tellCall 4 (some .int) :: ([.fieldLink RX1 33 "ParallelUndo$Bench" "calls" "I", .fieldLink RX1 20 "ParallelUndo$Bench" "attempts" "[LParallelUndo$Attempt;", .fieldLink RX1 85 "ParallelUndo$Attempt" "began" "I", .fieldLink RX1 88 "ParallelUndo$Attempt" "done" "I", .fieldLink RX1 91 "ParallelUndo$Attempt" "failed" "Z", .fieldLink RX1 95 "ParallelUndo$Attempt" "kept" "I", .fieldLink RX1 55 "ParallelUndo$Attempt" "group" "I", .methodLink RX1 98 yX0_countWritten, .instanceMethod yX0_countWritten, .selects RX0 yX0_countWritten yX0_countWritten, .initialized RX0, .code yX0_countWritten cX0_countWritten 1 (some .int), .fieldLink RX0 60 "ParallelUndo$Attempt" "writtenMask" "I", .methodLink RX0 78 yJ6_bitCount_0f7a4, .static yJ6_bitCount_0f7a4, .initialized RJ6, .code yJ6_bitCount_0f7a4 cJ6_bitCount_0f7a4 1 (some .int), .constant RJ6 265 (1431655765), .constant RJ6 266 (858993459), .constant RJ6 267 (252645135)] ++ wsX10 ++ wsX00)
def wsX2_init : List Cond := .code yX2_init cX2_init 1 none :: ([.methodLink RX2 3 objectInit, .instanceMethod objectInit, .code objectInit ⟨#[0xb1]⟩ 1 none, .arrayClass .int, .fieldLink RX2 9 "ParallelUndo$Block" "acts" "[I", .fieldLink RX2 15 "ParallelUndo$Block" "kind" "[I", .fieldLink RX2 18 "ParallelUndo$Block" "first" "[I", .fieldLink RX2 21 "ParallelUndo$Block" "second" "[I", .arrayClass .long, .fieldLink RX2 24 "ParallelUndo$Block" "value" "[J"] ++ wsX20)
def wsX2_addCall : List Cond := .code yX2_addCall cX2_addCall 1 (some .int) :: ([.fieldLink RX2 28 "ParallelUndo$Block" "calls" "I", .fieldLink RX2 9 "ParallelUndo$Block" "acts" "[I"] ++ wsX20)
def wsX2_addAct : List Cond := .code yX2_addAct cX2_addAct 8 (some .int) :: ([.fieldLink RX2 28 "ParallelUndo$Block" "calls" "I", .fieldLink RX2 9 "ParallelUndo$Block" "acts" "[I", .fieldLink RX2 15 "ParallelUndo$Block" "kind" "[I", .fieldLink RX2 18 "ParallelUndo$Block" "first" "[I", .fieldLink RX2 21 "ParallelUndo$Block" "second" "[I", .fieldLink RX2 24 "ParallelUndo$Block" "value" "[J"] ++ wsX20)
def wsX2_dropCalls : List Cond := .code yX2_dropCalls cX2_dropCalls 2 (some .int) :: ([.fieldLink RX2 28 "ParallelUndo$Block" "calls" "I"] ++ wsX20)
def wsX3_init : List Cond := .code yX3_init cX3_init 1 none :: ([.methodLink RX3 1 objectInit, .instanceMethod objectInit, .code objectInit ⟨#[0xb1]⟩ 1 none, .arrayClass .int, .fieldLink RX3 9 "ParallelUndo$Conflicts" "hit" "[I", .fieldLink RX3 13 "ParallelUndo$Conflicts" "by" "[I"] ++ wsX30)
def wsX3_note : List Cond := .code yX3_note cX3_note 3 none :: ([.fieldLink RX3 16 "ParallelUndo$Conflicts" "count" "I", .fieldLink RX3 9 "ParallelUndo$Conflicts" "hit" "[I", .fieldLink RX3 13 "ParallelUndo$Conflicts" "by" "[I"] ++ wsX30)
def wsX3_tell : List Cond := .code yX3_tell cX3_tell 3 (some .int) :: ([.fieldLink RX3 16 "ParallelUndo$Conflicts" "count" "I", .fieldLink RX3 9 "ParallelUndo$Conflicts" "hit" "[I", .fieldLink RX3 13 "ParallelUndo$Conflicts" "by" "[I"] ++ wsX30)
def wsX4_isRegister : List Cond := .code yX4_isRegister cX4_isRegister 1 (some .boolean) :: ([])
def wsX4_hasSecond : List Cond := .code yX4_hasSecond cX4_hasSecond 1 (some .boolean) :: ([])
def wsX4_allowsValue : List Cond := .code yX4_allowsValue cX4_allowsValue 3 (some .boolean) :: ([.constantLong RX4 22 (12)])
def wsX4_allows : List Cond := .code yX4_allows cX4_allows 5 (some .boolean) :: ([.methodLink RX4 11 yX4_isRegister, .static yX4_isRegister, .initialized RX4, .code yX4_isRegister cX4_isRegister 1 (some .boolean), .methodLink RX4 15 yX4_hasSecond, .static yX4_hasSecond, .code yX4_hasSecond cX4_hasSecond 1 (some .boolean), .methodLink RX4 18 yX4_allowsValue, .static yX4_allowsValue, .code yX4_allowsValue cX4_allowsValue 3 (some .boolean), .constantLong RX4 22 (12)])
def wsX5_valueAfter : List Cond := .code yX5_valueAfter cX5_valueAfter 2 (some .long) :: ([.methodLink RX5 37 yX5_writerBelow, .instanceMethod yX5_writerBelow, .selects RX5 yX5_writerBelow yX5_writerBelow, .initialized RX5, .code yX5_writerBelow cX5_writerBelow 4 (some .int), .fieldLink RX5 15 "ParallelUndo$Table" "state" "[I", .methodLink RX5 41 yX5_valueOf, .instanceMethod yX5_valueOf, .selects RX5 yX5_valueOf yX5_valueOf, .code yX5_valueOf cX5_valueOf 3 (some .long), .fieldLink RX5 9 "ParallelUndo$Table" "before" "[J", .fieldLink RX5 22 "ParallelUndo$Table" "value" "[J"] ++ wsX50)
def wsX5_doubt : List Cond := .code yX5_doubt cX5_doubt 3 none :: ([.fieldLink RX5 15 "ParallelUndo$Table" "state" "[I"] ++ wsX50)
def wsX6_init_r1 : List Cond := [Cond.methodLink RX6 3 objectInit, Cond.instanceMethod objectInit, Cond.code objectInit ⟨#[0xb1]⟩ 1 none, Cond.classLink RX6 9 RX1, Cond.instantiable RX1 3, Cond.initialized RX1, Cond.fieldLink RX6 12 "ParallelUndo$Workers" "bench" "LParallelUndo$Bench;", Cond.classLink RX6 18 RX3, Cond.instantiable RX3 3, Cond.initialized RX3, Cond.fieldLink RX6 21 "ParallelUndo$Workers" "conflicts" "LParallelUndo$Conflicts;", Cond.arrayClass .int, Cond.fieldLink RX6 25 "ParallelUndo$Workers" "status" "[I", Cond.fieldLink RX6 29 "ParallelUndo$Workers" "awaited" "[I", Cond.fieldLink RX6 32 "ParallelUndo$Workers" "number" "[I", Cond.fieldLink RX6 35 "ParallelUndo$Workers" "task" "[I", Cond.fieldLink RX6 38 "ParallelUndo$Workers" "taskCall" "[I", Cond.fieldLink RX6 41 "ParallelUndo$Workers" "taskNumber" "[I", Cond.methodLink RX6 11 yX1_init, Cond.instanceMethod yX1_init, Cond.code yX1_init cX1_init 2 none, Cond.methodLink RX1 3 objectInit, Cond.classLink RX1 9 RX5, Cond.instantiable RX5 4]
def wsX6_init_r2 : List Cond := [Cond.initialized RX5, Cond.fieldLink RX1 12 "ParallelUndo$Bench" "table" "LParallelUndo$Table;", Cond.classLink RX1 18 RX0, Cond.fieldLink RX1 20 "ParallelUndo$Bench" "attempts" "[LParallelUndo$Attempt;", Cond.instantiable RX0 18, Cond.initialized RX0, Cond.instanceMethod yX5_init, Cond.code yX5_init cX5_init 1 none, Cond.methodLink RX5 3 objectInit, Cond.arrayClass .long, Cond.fieldLink RX5 9 "ParallelUndo$Table" "before" "[J", Cond.fieldLink RX5 15 "ParallelUndo$Table" "state" "[I", Cond.fieldLink RX5 19 "ParallelUndo$Table" "number" "[I", Cond.fieldLink RX5 22 "ParallelUndo$Table" "value" "[J", Cond.methodLink RX1 24 yX0_init, Cond.instanceMethod yX0_init, Cond.code yX0_init cX0_init 2 none, Cond.methodLink RX0 3 objectInit, Cond.fieldLink RX0 9 "ParallelUndo$Attempt" "written" "[J", Cond.fieldLink RX0 15 "ParallelUndo$Attempt" "eventValue" "[J", Cond.fieldLink RX0 18 "ParallelUndo$Attempt" "register" "[J", Cond.fieldLink RX0 21 "ParallelUndo$Attempt" "keptValue" "[J", Cond.fieldLink RX0 24 "ParallelUndo$Attempt" "keptLeaf" "[I", Cond.fieldLink RX0 28 "ParallelUndo$Attempt" "keptWriter" "[I"]
def wsX6_init_r3 : List Cond := [Cond.fieldLink RX0 31 "ParallelUndo$Attempt" "keptNumber" "[I", Cond.fieldLink RX0 34 "ParallelUndo$Attempt" "self" "I", Cond.instanceMethod yX3_init, Cond.code yX3_init cX3_init 1 none, Cond.methodLink RX3 1 objectInit, Cond.fieldLink RX3 9 "ParallelUndo$Conflicts" "hit" "[I", Cond.fieldLink RX3 13 "ParallelUndo$Conflicts" "by" "[I"]
def wsX6_init : List Cond := .code yX6_init cX6_init 1 none :: ((wsX6_init_r1 ++ (wsX6_init_r2 ++ wsX6_init_r3)) ++ wsX10 ++ wsX60 ++ wsX30 ++ wsX50 ++ wsX00)
def wsX6_open_r1 : List Cond := [Cond.fieldLink RX6 12 "ParallelUndo$Workers" "bench" "LParallelUndo$Bench;", Cond.fieldLink RX6 21 "ParallelUndo$Workers" "conflicts" "LParallelUndo$Conflicts;", Cond.fieldLink RX6 48 "ParallelUndo$Conflicts" "count" "I", Cond.fieldLink RX6 52 "ParallelUndo$Workers" "turns" "I", Cond.fieldLink RX6 55 "ParallelUndo$Workers" "looks" "I", Cond.fieldLink RX6 58 "ParallelUndo$Workers" "undone" "I", Cond.fieldLink RX6 61 "ParallelUndo$Workers" "givenUp" "I", Cond.fieldLink RX6 64 "ParallelUndo$Workers" "fell" "Z", Cond.fieldLink RX6 68 "ParallelUndo$Workers" "size" "I", Cond.fieldLink RX6 71 "ParallelUndo$Workers" "fallBound" "I", Cond.fieldLink RX6 74 "ParallelUndo$Workers" "runRow" "I", Cond.fieldLink RX6 77 "ParallelUndo$Workers" "lookRow" "I", Cond.fieldLink RX6 25 "ParallelUndo$Workers" "status" "[I", Cond.fieldLink RX6 29 "ParallelUndo$Workers" "awaited" "[I", Cond.fieldLink RX6 32 "ParallelUndo$Workers" "number" "[I", Cond.fieldLink RX6 35 "ParallelUndo$Workers" "task" "[I", Cond.methodLink RX6 44 yX1_open, Cond.instanceMethod yX1_open, Cond.selects RX1 yX1_open yX1_open, Cond.initialized RX1, Cond.code yX1_open cX1_open 4 none, Cond.fieldLink RX1 27 "ParallelUndo$Block" "calls" "I", Cond.fieldLink RX1 33 "ParallelUndo$Bench" "calls" "I", Cond.fieldLink RX1 12 "ParallelUndo$Bench" "table" "LParallelUndo$Table;"]
def wsX6_open_r2 : List Cond := [Cond.fieldLink RX1 20 "ParallelUndo$Bench" "attempts" "[LParallelUndo$Attempt;", Cond.methodLink RX1 34 yX5_open, Cond.instanceMethod yX5_open, Cond.selects RX5 yX5_open yX5_open, Cond.initialized RX5, Cond.code yX5_open cX5_open 2 none, Cond.fieldLink RX5 9 "ParallelUndo$Table" "before" "[J", Cond.methodLink RX5 25 arraycopyName, Cond.native arraycopyName, Cond.static arraycopyName, Cond.initialized "java/lang/System", Cond.fieldLink RX5 15 "ParallelUndo$Table" "state" "[I", Cond.methodLink RX5 31 yJ7_fill_53178, Cond.static yJ7_fill_53178, Cond.initialized RJ7, Cond.code yJ7_fill_53178 cJ7_fill_53178 4 none, Cond.methodLink RX1 38 yX0_open, Cond.instanceMethod yX0_open, Cond.selects RX0 yX0_open yX0_open, Cond.initialized RX0, Cond.code yX0_open cX0_open 1 none, Cond.fieldLink RX0 38 "ParallelUndo$Attempt" "began" "I", Cond.fieldLink RX0 41 "ParallelUndo$Attempt" "doneInAll" "I", Cond.methodLink RX6 80 yJ7_fill_53178]
def wsX6_open : List Cond := .code yX6_open cX6_open 5 none :: ((wsX6_open_r1 ++ wsX6_open_r2) ++ wsX60 ++ wsX30 ++ wsX20 ++ wsX10 ++ wsX50 ++ wsX00)
def wsX6_isDone : List Cond := .code yX6_isDone cX6_isDone 2 (some .boolean) :: ([.fieldLink RX6 74 "ParallelUndo$Workers" "runRow" "I", .fieldLink RX6 12 "ParallelUndo$Workers" "bench" "LParallelUndo$Bench;", .fieldLink RX6 103 "ParallelUndo$Bench" "calls" "I", .fieldLink RX6 77 "ParallelUndo$Workers" "lookRow" "I", .fieldLink RX6 68 "ParallelUndo$Workers" "size" "I", .fieldLink RX6 35 "ParallelUndo$Workers" "task" "[I"] ++ wsX60 ++ wsX10)
def wsX6_giveUp : List Cond := .code yX6_giveUp cX6_giveUp 4 none :: ([.fieldLink RX6 35 "ParallelUndo$Workers" "task" "[I", .fieldLink RX6 25 "ParallelUndo$Workers" "status" "[I", .fieldLink RX6 29 "ParallelUndo$Workers" "awaited" "[I", .fieldLink RX6 61 "ParallelUndo$Workers" "givenUp" "I", .fieldLink RX6 21 "ParallelUndo$Workers" "conflicts" "LParallelUndo$Conflicts;", .methodLink RX6 151 yX3_note, .instanceMethod yX3_note, .selects RX3 yX3_note yX3_note, .initialized RX3, .code yX3_note cX3_note 3 none, .fieldLink RX3 16 "ParallelUndo$Conflicts" "count" "I", .fieldLink RX3 9 "ParallelUndo$Conflicts" "hit" "[I", .fieldLink RX3 13 "ParallelUndo$Conflicts" "by" "[I"] ++ wsX60 ++ wsX30)
def wsX6_wakeThoseWaitingFor : List Cond := .code yX6_wakeThoseWaitingFor cX6_wakeThoseWaitingFor 3 none :: ([.fieldLink RX6 12 "ParallelUndo$Workers" "bench" "LParallelUndo$Bench;", .fieldLink RX6 103 "ParallelUndo$Bench" "calls" "I", .fieldLink RX6 25 "ParallelUndo$Workers" "status" "[I", .fieldLink RX6 29 "ParallelUndo$Workers" "awaited" "[I", .fieldLink RX6 74 "ParallelUndo$Workers" "runRow" "I", .methodLink RX6 163 Lib.Math.min.name, .static Lib.Math.min.name, .initialized "java/lang/Math", .code Lib.Math.min.name Lib.Math.min.code 2 (some .int)] ++ wsX60 ++ wsX10)
def wsX6_giveLook : List Cond := .code yX6_giveLook cX6_giveLook 3 none :: ([.fieldLink RX6 35 "ParallelUndo$Workers" "task" "[I", .fieldLink RX6 38 "ParallelUndo$Workers" "taskCall" "[I", .fieldLink RX6 41 "ParallelUndo$Workers" "taskNumber" "[I", .fieldLink RX6 32 "ParallelUndo$Workers" "number" "[I"] ++ wsX60)
def wsX6_end_r1 : List Cond := [Cond.fieldLink RX6 35 "ParallelUndo$Workers" "task" "[I", Cond.fieldLink RX6 12 "ParallelUndo$Workers" "bench" "LParallelUndo$Bench;", Cond.fieldLink RX6 132 "ParallelUndo$Bench" "table" "LParallelUndo$Table;", Cond.fieldLink RX6 123 "ParallelUndo$Bench" "attempts" "[LParallelUndo$Attempt;", Cond.fieldLink RX6 32 "ParallelUndo$Workers" "number" "[I", Cond.fieldLink RX6 25 "ParallelUndo$Workers" "status" "[I", Cond.fieldLink RX6 77 "ParallelUndo$Workers" "lookRow" "I", Cond.methodLink RX6 154 yX5_publish, Cond.instanceMethod yX5_publish, Cond.selects RX5 yX5_publish yX5_publish, Cond.initialized RX5, Cond.code yX5_publish cX5_publish 6 (some .boolean), Cond.fieldLink RX5 45 "ParallelUndo$Attempt" "self" "I", Cond.fieldLink RX5 15 "ParallelUndo$Table" "state" "[I", Cond.fieldLink RX5 19 "ParallelUndo$Table" "number" "[I", Cond.fieldLink RX5 22 "ParallelUndo$Table" "value" "[J", Cond.fieldLink RX5 55 "ParallelUndo$Attempt" "written" "[J", Cond.methodLink RX5 51 yX0_hasWritten, Cond.instanceMethod yX0_hasWritten, Cond.selects RX0 yX0_hasWritten yX0_hasWritten, Cond.initialized RX0, Cond.code yX0_hasWritten cX0_hasWritten 2 (some .boolean), Cond.fieldLink RX0 60 "ParallelUndo$Attempt" "writtenMask" "I", Cond.methodLink RX6 160 yX6_wakeThoseWaitingFor]
def wsX6_end_r2 : List Cond := [Cond.instanceMethod yX6_wakeThoseWaitingFor, Cond.selects RX6 yX6_wakeThoseWaitingFor yX6_wakeThoseWaitingFor, Cond.initialized RX6, Cond.code yX6_wakeThoseWaitingFor cX6_wakeThoseWaitingFor 3 none, Cond.fieldLink RX6 103 "ParallelUndo$Bench" "calls" "I", Cond.fieldLink RX6 29 "ParallelUndo$Workers" "awaited" "[I", Cond.fieldLink RX6 74 "ParallelUndo$Workers" "runRow" "I", Cond.methodLink RX6 163 Lib.Math.min.name, Cond.static Lib.Math.min.name, Cond.initialized "java/lang/Math", Cond.code Lib.Math.min.name Lib.Math.min.code 2 (some .int), Cond.methodLink RX6 116 yX6_giveLook, Cond.instanceMethod yX6_giveLook, Cond.selects RX6 yX6_giveLook yX6_giveLook, Cond.code yX6_giveLook cX6_giveLook 3 none, Cond.fieldLink RX6 38 "ParallelUndo$Workers" "taskCall" "[I", Cond.fieldLink RX6 41 "ParallelUndo$Workers" "taskNumber" "[I"]
def wsX6_end : List Cond := .code yX6_end cX6_end 4 none :: ((wsX6_end_r1 ++ wsX6_end_r2) ++ wsX60 ++ wsX10 ++ wsX00 ++ wsX50)
def wsX6_goOn_r1 : List Cond := [Cond.fieldLink RX6 38 "ParallelUndo$Workers" "taskCall" "[I", Cond.fieldLink RX6 12 "ParallelUndo$Workers" "bench" "LParallelUndo$Bench;", Cond.fieldLink RX6 123 "ParallelUndo$Bench" "attempts" "[LParallelUndo$Attempt;", Cond.fieldLink RX6 132 "ParallelUndo$Bench" "table" "LParallelUndo$Table;", Cond.methodLink RX6 136 yX0_doNext, Cond.instanceMethod yX0_doNext, Cond.selects RX0 yX0_doNext yX0_doNext, Cond.initialized RX0, Cond.code yX0_doNext cX0_doNext 10 (some .int), Cond.fieldLink RX0 34 "ParallelUndo$Attempt" "self" "I", Cond.fieldLink RX0 44 "ParallelUndo$Attempt" "next" "I", Cond.fieldLink RX0 88 "ParallelUndo$Block" "kind" "[I", Cond.fieldLink RX0 91 "ParallelUndo$Block" "first" "[I", Cond.fieldLink RX0 94 "ParallelUndo$Block" "second" "[I", Cond.fieldLink RX0 97 "ParallelUndo$Block" "value" "[J", Cond.fieldLink RX0 47 "ParallelUndo$Attempt" "done" "I", Cond.fieldLink RX0 41 "ParallelUndo$Attempt" "doneInAll" "I", Cond.methodLink RX0 84 yX0_isOver, Cond.instanceMethod yX0_isOver, Cond.selects RX0 yX0_isOver yX0_isOver, Cond.code yX0_isOver cX0_isOver 2 (some .boolean), Cond.fieldLink RX0 50 "ParallelUndo$Attempt" "failed" "Z", Cond.methodLink RX0 72 yX2_hasAct, Cond.instanceMethod yX2_hasAct]
def wsX6_goOn_r2 : List Cond := [Cond.selects RX2 yX2_hasAct yX2_hasAct, Cond.initialized RX2, Cond.code yX2_hasAct cX2_hasAct 3 (some .boolean), Cond.fieldLink RX2 28 "ParallelUndo$Block" "calls" "I", Cond.fieldLink RX2 9 "ParallelUndo$Block" "acts" "[I", Cond.methodLink RX0 102 yX0_leafAt, Cond.instanceMethod yX0_leafAt, Cond.selects RX0 yX0_leafAt yX0_leafAt, Cond.code yX0_leafAt cX0_leafAt 4 (some .int), Cond.fieldLink RX0 18 "ParallelUndo$Attempt" "register" "[J", Cond.constantLong RX0 114 (31), Cond.methodLink RX0 106 yX0_read, Cond.instanceMethod yX0_read, Cond.selects RX0 yX0_read yX0_read, Cond.code yX0_read cX0_read 5 (some .int), Cond.fieldLink RX0 9 "ParallelUndo$Attempt" "written" "[J", Cond.fieldLink RX0 57 "ParallelUndo$Attempt" "keptMask" "I", Cond.fieldLink RX0 21 "ParallelUndo$Attempt" "keptValue" "[J", Cond.methodLink RX0 116 yX0_hasWritten, Cond.instanceMethod yX0_hasWritten, Cond.selects RX0 yX0_hasWritten yX0_hasWritten, Cond.code yX0_hasWritten cX0_hasWritten 2 (some .boolean), Cond.fieldLink RX0 60 "ParallelUndo$Attempt" "writtenMask" "I", Cond.methodLink RX0 120 yX5_writerBelow]
def wsX6_goOn_r3 : List Cond := [Cond.instanceMethod yX5_writerBelow, Cond.selects RX5 yX5_writerBelow yX5_writerBelow, Cond.initialized RX5, Cond.code yX5_writerBelow cX5_writerBelow 4 (some .int), Cond.fieldLink RX5 15 "ParallelUndo$Table" "state" "[I", Cond.methodLink RX0 126 yX5_isPerhaps, Cond.instanceMethod yX5_isPerhaps, Cond.selects RX5 yX5_isPerhaps yX5_isPerhaps, Cond.code yX5_isPerhaps cX5_isPerhaps 3 (some .boolean), Cond.methodLink RX0 129 yX5_numberOf, Cond.instanceMethod yX5_numberOf, Cond.selects RX5 yX5_numberOf yX5_numberOf, Cond.code yX5_numberOf cX5_numberOf 3 (some .int), Cond.fieldLink RX5 19 "ParallelUndo$Table" "number" "[I", Cond.methodLink RX0 132 yX5_valueOf, Cond.instanceMethod yX5_valueOf, Cond.selects RX5 yX5_valueOf yX5_valueOf, Cond.code yX5_valueOf cX5_valueOf 3 (some .long), Cond.fieldLink RX5 9 "ParallelUndo$Table" "before" "[J", Cond.fieldLink RX5 22 "ParallelUndo$Table" "value" "[J", Cond.methodLink RX0 136 yX0_keep, Cond.instanceMethod yX0_keep, Cond.selects RX0 yX0_keep yX0_keep, Cond.code yX0_keep cX0_keep 6 none]
def wsX6_goOn_r4 : List Cond := [Cond.fieldLink RX0 54 "ParallelUndo$Attempt" "kept" "I", Cond.fieldLink RX0 24 "ParallelUndo$Attempt" "keptLeaf" "[I", Cond.fieldLink RX0 28 "ParallelUndo$Attempt" "keptWriter" "[I", Cond.fieldLink RX0 31 "ParallelUndo$Attempt" "keptNumber" "[I", Cond.methodLink RX0 110 yX0_perform, Cond.instanceMethod yX0_perform, Cond.selects RX0 yX0_perform yX0_perform, Cond.code yX0_perform cX0_perform 6 none, Cond.methodLink RX0 139 yX0_write, Cond.instanceMethod yX0_write, Cond.selects RX0 yX0_write yX0_write, Cond.code yX0_write cX0_write 4 none, Cond.methodLink RX0 143 yX0_raise, Cond.instanceMethod yX0_raise, Cond.selects RX0 yX0_raise yX0_raise, Cond.code yX0_raise cX0_raise 3 none, Cond.fieldLink RX0 63 "ParallelUndo$Attempt" "eventCount" "I", Cond.fieldLink RX0 15 "ParallelUndo$Attempt" "eventValue" "[J", Cond.methodLink RX0 147 yX0_fail, Cond.instanceMethod yX0_fail, Cond.selects RX0 yX0_fail yX0_fail, Cond.code yX0_fail cX0_fail 1 none, Cond.methodLink RX6 140 yX6_giveUp, Cond.instanceMethod yX6_giveUp]
def wsX6_goOn_r5 : List Cond := [Cond.selects RX6 yX6_giveUp yX6_giveUp, Cond.initialized RX6, Cond.code yX6_giveUp cX6_giveUp 4 none, Cond.fieldLink RX6 35 "ParallelUndo$Workers" "task" "[I", Cond.fieldLink RX6 25 "ParallelUndo$Workers" "status" "[I", Cond.fieldLink RX6 29 "ParallelUndo$Workers" "awaited" "[I", Cond.fieldLink RX6 61 "ParallelUndo$Workers" "givenUp" "I", Cond.fieldLink RX6 21 "ParallelUndo$Workers" "conflicts" "LParallelUndo$Conflicts;", Cond.methodLink RX6 151 yX3_note, Cond.instanceMethod yX3_note, Cond.selects RX3 yX3_note yX3_note, Cond.initialized RX3, Cond.code yX3_note cX3_note 3 none, Cond.fieldLink RX3 16 "ParallelUndo$Conflicts" "count" "I", Cond.fieldLink RX3 9 "ParallelUndo$Conflicts" "hit" "[I", Cond.fieldLink RX3 13 "ParallelUndo$Conflicts" "by" "[I", Cond.methodLink RX6 144 yX0_isOver, Cond.methodLink RX6 148 yX6_end, Cond.instanceMethod yX6_end, Cond.selects RX6 yX6_end yX6_end, Cond.code yX6_end cX6_end 4 none, Cond.fieldLink RX6 32 "ParallelUndo$Workers" "number" "[I", Cond.fieldLink RX6 77 "ParallelUndo$Workers" "lookRow" "I", Cond.methodLink RX6 154 yX5_publish]
def wsX6_goOn_r6 : List Cond := [Cond.instanceMethod yX5_publish, Cond.selects RX5 yX5_publish yX5_publish, Cond.code yX5_publish cX5_publish 6 (some .boolean), Cond.fieldLink RX5 45 "ParallelUndo$Attempt" "self" "I", Cond.fieldLink RX5 55 "ParallelUndo$Attempt" "written" "[J", Cond.methodLink RX5 51 yX0_hasWritten, Cond.methodLink RX6 160 yX6_wakeThoseWaitingFor, Cond.instanceMethod yX6_wakeThoseWaitingFor, Cond.selects RX6 yX6_wakeThoseWaitingFor yX6_wakeThoseWaitingFor, Cond.code yX6_wakeThoseWaitingFor cX6_wakeThoseWaitingFor 3 none, Cond.fieldLink RX6 103 "ParallelUndo$Bench" "calls" "I", Cond.fieldLink RX6 74 "ParallelUndo$Workers" "runRow" "I", Cond.methodLink RX6 163 Lib.Math.min.name, Cond.static Lib.Math.min.name, Cond.initialized "java/lang/Math", Cond.code Lib.Math.min.name Lib.Math.min.code 2 (some .int), Cond.methodLink RX6 116 yX6_giveLook, Cond.instanceMethod yX6_giveLook, Cond.selects RX6 yX6_giveLook yX6_giveLook, Cond.code yX6_giveLook cX6_giveLook 3 none, Cond.fieldLink RX6 41 "ParallelUndo$Workers" "taskNumber" "[I"]
def wsX6_goOn : List Cond := .code yX6_goOn cX6_goOn 6 none :: ((wsX6_goOn_r1 ++ (wsX6_goOn_r2 ++ (wsX6_goOn_r3 ++ (wsX6_goOn_r4 ++ (wsX6_goOn_r5 ++ wsX6_goOn_r6))))) ++ wsX60 ++ wsX10 ++ wsX00 ++ wsX20 ++ wsX50 ++ wsX30)
def wsX6_undo : List Cond := .code yX6_undo cX6_undo 2 none :: ([.fieldLink RX6 58 "ParallelUndo$Workers" "undone" "I", .fieldLink RX6 12 "ParallelUndo$Workers" "bench" "LParallelUndo$Bench;", .fieldLink RX6 132 "ParallelUndo$Bench" "table" "LParallelUndo$Table;", .fieldLink RX6 32 "ParallelUndo$Workers" "number" "[I", .fieldLink RX6 25 "ParallelUndo$Workers" "status" "[I", .fieldLink RX6 77 "ParallelUndo$Workers" "lookRow" "I", .methodLink RX6 163 Lib.Math.min.name, .static Lib.Math.min.name, .initialized "java/lang/Math", .code Lib.Math.min.name Lib.Math.min.code 2 (some .int), .fieldLink RX6 71 "ParallelUndo$Workers" "fallBound" "I", .fieldLink RX6 64 "ParallelUndo$Workers" "fell" "Z", .methodLink RX6 179 yX5_doubt, .instanceMethod yX5_doubt, .selects RX5 yX5_doubt yX5_doubt, .initialized RX5, .code yX5_doubt cX5_doubt 3 none, .fieldLink RX5 15 "ParallelUndo$Table" "state" "[I"] ++ wsX60 ++ wsX10 ++ wsX50)
def wsX6_giveRun : List Cond := .code yX6_giveRun cX6_giveRun 3 none :: ([.fieldLink RX6 35 "ParallelUndo$Workers" "task" "[I", .fieldLink RX6 38 "ParallelUndo$Workers" "taskCall" "[I", .fieldLink RX6 25 "ParallelUndo$Workers" "status" "[I", .fieldLink RX6 12 "ParallelUndo$Workers" "bench" "LParallelUndo$Bench;", .fieldLink RX6 123 "ParallelUndo$Bench" "attempts" "[LParallelUndo$Attempt;", .methodLink RX6 127 yX0_begin, .instanceMethod yX0_begin, .selects RX0 yX0_begin yX0_begin, .initialized RX0, .code yX0_begin cX0_begin 1 none, .fieldLink RX0 38 "ParallelUndo$Attempt" "began" "I", .fieldLink RX0 44 "ParallelUndo$Attempt" "next" "I", .fieldLink RX0 47 "ParallelUndo$Attempt" "done" "I", .fieldLink RX0 50 "ParallelUndo$Attempt" "failed" "Z", .fieldLink RX0 54 "ParallelUndo$Attempt" "kept" "I", .fieldLink RX0 57 "ParallelUndo$Attempt" "keptMask" "I", .fieldLink RX0 60 "ParallelUndo$Attempt" "writtenMask" "I", .fieldLink RX0 63 "ParallelUndo$Attempt" "eventCount" "I", .fieldLink RX0 18 "ParallelUndo$Attempt" "register" "[J", .methodLink RX0 66 yJ7_fill_d0a16, .static yJ7_fill_d0a16, .initialized RJ7, .code yJ7_fill_d0a16 cJ7_fill_d0a16 5 none] ++ wsX60 ++ wsX10 ++ wsX00)
def wsX6_look_r1 : List Cond := [Cond.fieldLink RX6 38 "ParallelUndo$Workers" "taskCall" "[I", Cond.fieldLink RX6 35 "ParallelUndo$Workers" "task" "[I", Cond.fieldLink RX6 55 "ParallelUndo$Workers" "looks" "I", Cond.fieldLink RX6 25 "ParallelUndo$Workers" "status" "[I", Cond.fieldLink RX6 32 "ParallelUndo$Workers" "number" "[I", Cond.fieldLink RX6 41 "ParallelUndo$Workers" "taskNumber" "[I", Cond.fieldLink RX6 12 "ParallelUndo$Workers" "bench" "LParallelUndo$Bench;", Cond.fieldLink RX6 123 "ParallelUndo$Bench" "attempts" "[LParallelUndo$Attempt;", Cond.fieldLink RX6 132 "ParallelUndo$Bench" "table" "LParallelUndo$Table;", Cond.fieldLink RX6 21 "ParallelUndo$Workers" "conflicts" "LParallelUndo$Conflicts;", Cond.fieldLink RX6 64 "ParallelUndo$Workers" "fell" "Z", Cond.fieldLink RX6 74 "ParallelUndo$Workers" "runRow" "I", Cond.methodLink RX6 169 yX0_firstChanged, Cond.instanceMethod yX0_firstChanged, Cond.selects RX0 yX0_firstChanged yX0_firstChanged, Cond.initialized RX0, Cond.code yX0_firstChanged cX0_firstChanged 5 (some .int), Cond.fieldLink RX0 54 "ParallelUndo$Attempt" "kept" "I", Cond.fieldLink RX0 24 "ParallelUndo$Attempt" "keptLeaf" "[I", Cond.fieldLink RX0 34 "ParallelUndo$Attempt" "self" "I", Cond.fieldLink RX0 28 "ParallelUndo$Attempt" "keptWriter" "[I", Cond.fieldLink RX0 31 "ParallelUndo$Attempt" "keptNumber" "[I", Cond.methodLink RX0 120 yX5_writerBelow, Cond.instanceMethod yX5_writerBelow]
def wsX6_look_r2 : List Cond := [Cond.selects RX5 yX5_writerBelow yX5_writerBelow, Cond.initialized RX5, Cond.code yX5_writerBelow cX5_writerBelow 4 (some .int), Cond.fieldLink RX5 15 "ParallelUndo$Table" "state" "[I", Cond.methodLink RX0 126 yX5_isPerhaps, Cond.instanceMethod yX5_isPerhaps, Cond.selects RX5 yX5_isPerhaps yX5_isPerhaps, Cond.code yX5_isPerhaps cX5_isPerhaps 3 (some .boolean), Cond.methodLink RX0 129 yX5_numberOf, Cond.instanceMethod yX5_numberOf, Cond.selects RX5 yX5_numberOf yX5_numberOf, Cond.code yX5_numberOf cX5_numberOf 3 (some .int), Cond.fieldLink RX5 19 "ParallelUndo$Table" "number" "[I", Cond.methodLink RX6 173 yX5_writerBelow, Cond.methodLink RX6 151 yX3_note, Cond.instanceMethod yX3_note, Cond.selects RX3 yX3_note yX3_note, Cond.initialized RX3, Cond.code yX3_note cX3_note 3 none, Cond.fieldLink RX3 16 "ParallelUndo$Conflicts" "count" "I", Cond.fieldLink RX3 9 "ParallelUndo$Conflicts" "hit" "[I", Cond.fieldLink RX3 13 "ParallelUndo$Conflicts" "by" "[I", Cond.methodLink RX6 176 yX6_undo, Cond.instanceMethod yX6_undo]
def wsX6_look_r3 : List Cond := [Cond.selects RX6 yX6_undo yX6_undo, Cond.initialized RX6, Cond.code yX6_undo cX6_undo 2 none, Cond.fieldLink RX6 58 "ParallelUndo$Workers" "undone" "I", Cond.fieldLink RX6 77 "ParallelUndo$Workers" "lookRow" "I", Cond.methodLink RX6 163 Lib.Math.min.name, Cond.static Lib.Math.min.name, Cond.initialized "java/lang/Math", Cond.code Lib.Math.min.name Lib.Math.min.code 2 (some .int), Cond.fieldLink RX6 71 "ParallelUndo$Workers" "fallBound" "I", Cond.methodLink RX6 179 yX5_doubt, Cond.instanceMethod yX5_doubt, Cond.selects RX5 yX5_doubt yX5_doubt, Cond.code yX5_doubt cX5_doubt 3 none, Cond.methodLink RX6 120 yX6_giveRun, Cond.instanceMethod yX6_giveRun, Cond.selects RX6 yX6_giveRun yX6_giveRun, Cond.code yX6_giveRun cX6_giveRun 3 none, Cond.methodLink RX6 127 yX0_begin, Cond.instanceMethod yX0_begin, Cond.selects RX0 yX0_begin yX0_begin, Cond.code yX0_begin cX0_begin 1 none, Cond.fieldLink RX0 38 "ParallelUndo$Attempt" "began" "I", Cond.fieldLink RX0 44 "ParallelUndo$Attempt" "next" "I"]
def wsX6_look_r4 : List Cond := [Cond.fieldLink RX0 47 "ParallelUndo$Attempt" "done" "I", Cond.fieldLink RX0 50 "ParallelUndo$Attempt" "failed" "Z", Cond.fieldLink RX0 57 "ParallelUndo$Attempt" "keptMask" "I", Cond.fieldLink RX0 60 "ParallelUndo$Attempt" "writtenMask" "I", Cond.fieldLink RX0 63 "ParallelUndo$Attempt" "eventCount" "I", Cond.fieldLink RX0 18 "ParallelUndo$Attempt" "register" "[J", Cond.methodLink RX0 66 yJ7_fill_d0a16, Cond.static yJ7_fill_d0a16, Cond.initialized RJ7, Cond.code yJ7_fill_d0a16 cJ7_fill_d0a16 5 none]
def wsX6_look : List Cond := .code yX6_look cX6_look 4 none :: ((wsX6_look_r1 ++ (wsX6_look_r2 ++ (wsX6_look_r3 ++ wsX6_look_r4))) ++ wsX60 ++ wsX10 ++ wsX00 ++ wsX50 ++ wsX30)
def wsX6_takeTask_r1 : List Cond := [Cond.fieldLink RX6 77 "ParallelUndo$Workers" "lookRow" "I", Cond.fieldLink RX6 74 "ParallelUndo$Workers" "runRow" "I", Cond.fieldLink RX6 25 "ParallelUndo$Workers" "status" "[I", Cond.fieldLink RX6 12 "ParallelUndo$Workers" "bench" "LParallelUndo$Bench;", Cond.fieldLink RX6 103 "ParallelUndo$Bench" "calls" "I", Cond.methodLink RX6 116 yX6_giveLook, Cond.instanceMethod yX6_giveLook, Cond.selects RX6 yX6_giveLook yX6_giveLook, Cond.initialized RX6, Cond.code yX6_giveLook cX6_giveLook 3 none, Cond.fieldLink RX6 35 "ParallelUndo$Workers" "task" "[I", Cond.fieldLink RX6 38 "ParallelUndo$Workers" "taskCall" "[I", Cond.fieldLink RX6 41 "ParallelUndo$Workers" "taskNumber" "[I", Cond.fieldLink RX6 32 "ParallelUndo$Workers" "number" "[I", Cond.methodLink RX6 120 yX6_giveRun, Cond.instanceMethod yX6_giveRun, Cond.selects RX6 yX6_giveRun yX6_giveRun, Cond.code yX6_giveRun cX6_giveRun 3 none, Cond.fieldLink RX6 123 "ParallelUndo$Bench" "attempts" "[LParallelUndo$Attempt;", Cond.methodLink RX6 127 yX0_begin, Cond.instanceMethod yX0_begin, Cond.selects RX0 yX0_begin yX0_begin, Cond.initialized RX0, Cond.code yX0_begin cX0_begin 1 none]
def wsX6_takeTask_r2 : List Cond := [Cond.fieldLink RX0 38 "ParallelUndo$Attempt" "began" "I", Cond.fieldLink RX0 44 "ParallelUndo$Attempt" "next" "I", Cond.fieldLink RX0 47 "ParallelUndo$Attempt" "done" "I", Cond.fieldLink RX0 50 "ParallelUndo$Attempt" "failed" "Z", Cond.fieldLink RX0 54 "ParallelUndo$Attempt" "kept" "I", Cond.fieldLink RX0 57 "ParallelUndo$Attempt" "keptMask" "I", Cond.fieldLink RX0 60 "ParallelUndo$Attempt" "writtenMask" "I", Cond.fieldLink RX0 63 "ParallelUndo$Attempt" "eventCount" "I", Cond.fieldLink RX0 18 "ParallelUndo$Attempt" "register" "[J", Cond.methodLink RX0 66 yJ7_fill_d0a16, Cond.static yJ7_fill_d0a16, Cond.initialized RJ7, Cond.code yJ7_fill_d0a16 cJ7_fill_d0a16 5 none]
def wsX6_takeTask : List Cond := .code yX6_takeTask cX6_takeTask 3 none :: ((wsX6_takeTask_r1 ++ wsX6_takeTask_r2) ++ wsX60 ++ wsX10 ++ wsX00)
def wsX6_step_r1 : List Cond := [Cond.fieldLink RX6 35 "ParallelUndo$Workers" "task" "[I", Cond.methodLink RX6 106 yX6_goOn, Cond.instanceMethod yX6_goOn, Cond.selects RX6 yX6_goOn yX6_goOn, Cond.initialized RX6, Cond.code yX6_goOn cX6_goOn 6 none, Cond.fieldLink RX6 38 "ParallelUndo$Workers" "taskCall" "[I", Cond.fieldLink RX6 12 "ParallelUndo$Workers" "bench" "LParallelUndo$Bench;", Cond.fieldLink RX6 123 "ParallelUndo$Bench" "attempts" "[LParallelUndo$Attempt;", Cond.fieldLink RX6 132 "ParallelUndo$Bench" "table" "LParallelUndo$Table;", Cond.methodLink RX6 136 yX0_doNext, Cond.instanceMethod yX0_doNext, Cond.selects RX0 yX0_doNext yX0_doNext, Cond.initialized RX0, Cond.code yX0_doNext cX0_doNext 10 (some .int), Cond.fieldLink RX0 34 "ParallelUndo$Attempt" "self" "I", Cond.fieldLink RX0 44 "ParallelUndo$Attempt" "next" "I", Cond.fieldLink RX0 88 "ParallelUndo$Block" "kind" "[I", Cond.fieldLink RX0 91 "ParallelUndo$Block" "first" "[I", Cond.fieldLink RX0 94 "ParallelUndo$Block" "second" "[I", Cond.fieldLink RX0 97 "ParallelUndo$Block" "value" "[J", Cond.fieldLink RX0 47 "ParallelUndo$Attempt" "done" "I", Cond.fieldLink RX0 41 "ParallelUndo$Attempt" "doneInAll" "I", Cond.methodLink RX0 84 yX0_isOver]
def wsX6_step_r2 : List Cond := [Cond.instanceMethod yX0_isOver, Cond.selects RX0 yX0_isOver yX0_isOver, Cond.code yX0_isOver cX0_isOver 2 (some .boolean), Cond.fieldLink RX0 50 "ParallelUndo$Attempt" "failed" "Z", Cond.methodLink RX0 72 yX2_hasAct, Cond.instanceMethod yX2_hasAct, Cond.selects RX2 yX2_hasAct yX2_hasAct, Cond.initialized RX2, Cond.code yX2_hasAct cX2_hasAct 3 (some .boolean), Cond.fieldLink RX2 28 "ParallelUndo$Block" "calls" "I", Cond.fieldLink RX2 9 "ParallelUndo$Block" "acts" "[I", Cond.methodLink RX0 102 yX0_leafAt, Cond.instanceMethod yX0_leafAt, Cond.selects RX0 yX0_leafAt yX0_leafAt, Cond.code yX0_leafAt cX0_leafAt 4 (some .int), Cond.fieldLink RX0 18 "ParallelUndo$Attempt" "register" "[J", Cond.constantLong RX0 114 (31), Cond.methodLink RX0 106 yX0_read, Cond.instanceMethod yX0_read, Cond.selects RX0 yX0_read yX0_read, Cond.code yX0_read cX0_read 5 (some .int), Cond.fieldLink RX0 9 "ParallelUndo$Attempt" "written" "[J", Cond.fieldLink RX0 57 "ParallelUndo$Attempt" "keptMask" "I", Cond.fieldLink RX0 21 "ParallelUndo$Attempt" "keptValue" "[J"]
def wsX6_step_r3 : List Cond := [Cond.methodLink RX0 116 yX0_hasWritten, Cond.instanceMethod yX0_hasWritten, Cond.selects RX0 yX0_hasWritten yX0_hasWritten, Cond.code yX0_hasWritten cX0_hasWritten 2 (some .boolean), Cond.fieldLink RX0 60 "ParallelUndo$Attempt" "writtenMask" "I", Cond.methodLink RX0 120 yX5_writerBelow, Cond.instanceMethod yX5_writerBelow, Cond.selects RX5 yX5_writerBelow yX5_writerBelow, Cond.initialized RX5, Cond.code yX5_writerBelow cX5_writerBelow 4 (some .int), Cond.fieldLink RX5 15 "ParallelUndo$Table" "state" "[I", Cond.methodLink RX0 126 yX5_isPerhaps, Cond.instanceMethod yX5_isPerhaps, Cond.selects RX5 yX5_isPerhaps yX5_isPerhaps, Cond.code yX5_isPerhaps cX5_isPerhaps 3 (some .boolean), Cond.methodLink RX0 129 yX5_numberOf, Cond.instanceMethod yX5_numberOf, Cond.selects RX5 yX5_numberOf yX5_numberOf, Cond.code yX5_numberOf cX5_numberOf 3 (some .int), Cond.fieldLink RX5 19 "ParallelUndo$Table" "number" "[I", Cond.methodLink RX0 132 yX5_valueOf, Cond.instanceMethod yX5_valueOf, Cond.selects RX5 yX5_valueOf yX5_valueOf, Cond.code yX5_valueOf cX5_valueOf 3 (some .long)]
def wsX6_step_r4 : List Cond := [Cond.fieldLink RX5 9 "ParallelUndo$Table" "before" "[J", Cond.fieldLink RX5 22 "ParallelUndo$Table" "value" "[J", Cond.methodLink RX0 136 yX0_keep, Cond.instanceMethod yX0_keep, Cond.selects RX0 yX0_keep yX0_keep, Cond.code yX0_keep cX0_keep 6 none, Cond.fieldLink RX0 54 "ParallelUndo$Attempt" "kept" "I", Cond.fieldLink RX0 24 "ParallelUndo$Attempt" "keptLeaf" "[I", Cond.fieldLink RX0 28 "ParallelUndo$Attempt" "keptWriter" "[I", Cond.fieldLink RX0 31 "ParallelUndo$Attempt" "keptNumber" "[I", Cond.methodLink RX0 110 yX0_perform, Cond.instanceMethod yX0_perform, Cond.selects RX0 yX0_perform yX0_perform, Cond.code yX0_perform cX0_perform 6 none, Cond.methodLink RX0 139 yX0_write, Cond.instanceMethod yX0_write, Cond.selects RX0 yX0_write yX0_write, Cond.code yX0_write cX0_write 4 none, Cond.methodLink RX0 143 yX0_raise, Cond.instanceMethod yX0_raise, Cond.selects RX0 yX0_raise yX0_raise, Cond.code yX0_raise cX0_raise 3 none, Cond.fieldLink RX0 63 "ParallelUndo$Attempt" "eventCount" "I", Cond.fieldLink RX0 15 "ParallelUndo$Attempt" "eventValue" "[J"]
def wsX6_step_r5 : List Cond := [Cond.methodLink RX0 147 yX0_fail, Cond.instanceMethod yX0_fail, Cond.selects RX0 yX0_fail yX0_fail, Cond.code yX0_fail cX0_fail 1 none, Cond.methodLink RX6 140 yX6_giveUp, Cond.instanceMethod yX6_giveUp, Cond.selects RX6 yX6_giveUp yX6_giveUp, Cond.code yX6_giveUp cX6_giveUp 4 none, Cond.fieldLink RX6 25 "ParallelUndo$Workers" "status" "[I", Cond.fieldLink RX6 29 "ParallelUndo$Workers" "awaited" "[I", Cond.fieldLink RX6 61 "ParallelUndo$Workers" "givenUp" "I", Cond.fieldLink RX6 21 "ParallelUndo$Workers" "conflicts" "LParallelUndo$Conflicts;", Cond.methodLink RX6 151 yX3_note, Cond.instanceMethod yX3_note, Cond.selects RX3 yX3_note yX3_note, Cond.initialized RX3, Cond.code yX3_note cX3_note 3 none, Cond.fieldLink RX3 16 "ParallelUndo$Conflicts" "count" "I", Cond.fieldLink RX3 9 "ParallelUndo$Conflicts" "hit" "[I", Cond.fieldLink RX3 13 "ParallelUndo$Conflicts" "by" "[I", Cond.methodLink RX6 144 yX0_isOver, Cond.methodLink RX6 148 yX6_end, Cond.instanceMethod yX6_end, Cond.selects RX6 yX6_end yX6_end]
def wsX6_step_r6 : List Cond := [Cond.code yX6_end cX6_end 4 none, Cond.fieldLink RX6 32 "ParallelUndo$Workers" "number" "[I", Cond.fieldLink RX6 77 "ParallelUndo$Workers" "lookRow" "I", Cond.methodLink RX6 154 yX5_publish, Cond.instanceMethod yX5_publish, Cond.selects RX5 yX5_publish yX5_publish, Cond.code yX5_publish cX5_publish 6 (some .boolean), Cond.fieldLink RX5 45 "ParallelUndo$Attempt" "self" "I", Cond.fieldLink RX5 55 "ParallelUndo$Attempt" "written" "[J", Cond.methodLink RX5 51 yX0_hasWritten, Cond.methodLink RX6 160 yX6_wakeThoseWaitingFor, Cond.instanceMethod yX6_wakeThoseWaitingFor, Cond.selects RX6 yX6_wakeThoseWaitingFor yX6_wakeThoseWaitingFor, Cond.code yX6_wakeThoseWaitingFor cX6_wakeThoseWaitingFor 3 none, Cond.fieldLink RX6 103 "ParallelUndo$Bench" "calls" "I", Cond.fieldLink RX6 74 "ParallelUndo$Workers" "runRow" "I", Cond.methodLink RX6 163 Lib.Math.min.name, Cond.static Lib.Math.min.name, Cond.initialized "java/lang/Math", Cond.code Lib.Math.min.name Lib.Math.min.code 2 (some .int), Cond.methodLink RX6 116 yX6_giveLook, Cond.instanceMethod yX6_giveLook, Cond.selects RX6 yX6_giveLook yX6_giveLook, Cond.code yX6_giveLook cX6_giveLook 3 none]
def wsX6_step_r7 : List Cond := [Cond.fieldLink RX6 41 "ParallelUndo$Workers" "taskNumber" "[I", Cond.methodLink RX6 109 yX6_look, Cond.instanceMethod yX6_look, Cond.selects RX6 yX6_look yX6_look, Cond.code yX6_look cX6_look 4 none, Cond.fieldLink RX6 55 "ParallelUndo$Workers" "looks" "I", Cond.fieldLink RX6 64 "ParallelUndo$Workers" "fell" "Z", Cond.methodLink RX6 169 yX0_firstChanged, Cond.instanceMethod yX0_firstChanged, Cond.selects RX0 yX0_firstChanged yX0_firstChanged, Cond.code yX0_firstChanged cX0_firstChanged 5 (some .int), Cond.methodLink RX6 173 yX5_writerBelow, Cond.methodLink RX6 176 yX6_undo, Cond.instanceMethod yX6_undo, Cond.selects RX6 yX6_undo yX6_undo, Cond.code yX6_undo cX6_undo 2 none, Cond.fieldLink RX6 58 "ParallelUndo$Workers" "undone" "I", Cond.fieldLink RX6 71 "ParallelUndo$Workers" "fallBound" "I", Cond.methodLink RX6 179 yX5_doubt, Cond.instanceMethod yX5_doubt, Cond.selects RX5 yX5_doubt yX5_doubt, Cond.code yX5_doubt cX5_doubt 3 none, Cond.methodLink RX6 120 yX6_giveRun, Cond.instanceMethod yX6_giveRun]
def wsX6_step_r8 : List Cond := [Cond.selects RX6 yX6_giveRun yX6_giveRun, Cond.code yX6_giveRun cX6_giveRun 3 none, Cond.methodLink RX6 127 yX0_begin, Cond.instanceMethod yX0_begin, Cond.selects RX0 yX0_begin yX0_begin, Cond.code yX0_begin cX0_begin 1 none, Cond.fieldLink RX0 38 "ParallelUndo$Attempt" "began" "I", Cond.methodLink RX0 66 yJ7_fill_d0a16, Cond.static yJ7_fill_d0a16, Cond.initialized RJ7, Cond.code yJ7_fill_d0a16 cJ7_fill_d0a16 5 none, Cond.methodLink RX6 113 yX6_takeTask, Cond.instanceMethod yX6_takeTask, Cond.selects RX6 yX6_takeTask yX6_takeTask, Cond.code yX6_takeTask cX6_takeTask 3 none]
def wsX6_step : List Cond := .code yX6_step cX6_step 3 none :: ((wsX6_step_r1 ++ (wsX6_step_r2 ++ (wsX6_step_r3 ++ (wsX6_step_r4 ++ (wsX6_step_r5 ++ (wsX6_step_r6 ++ (wsX6_step_r7 ++ wsX6_step_r8))))))) ++ wsX60 ++ wsX10 ++ wsX00 ++ wsX20 ++ wsX50 ++ wsX30)
def wsX6_work_r1 : List Cond := [Cond.fieldLink RX6 52 "ParallelUndo$Workers" "turns" "I", Cond.constant RX6 86 (1000000), Cond.fieldLink RX6 68 "ParallelUndo$Workers" "size" "I", Cond.fieldLink RX6 64 "ParallelUndo$Workers" "fell" "Z", Cond.constant RX6 91 (1103515245), Cond.fieldLink RX6 12 "ParallelUndo$Workers" "bench" "LParallelUndo$Bench;", Cond.methodLink RX6 87 yX6_isDone, Cond.instanceMethod yX6_isDone, Cond.selects RX6 yX6_isDone yX6_isDone, Cond.initialized RX6, Cond.code yX6_isDone cX6_isDone 2 (some .boolean), Cond.fieldLink RX6 74 "ParallelUndo$Workers" "runRow" "I", Cond.fieldLink RX6 103 "ParallelUndo$Bench" "calls" "I", Cond.fieldLink RX6 77 "ParallelUndo$Workers" "lookRow" "I", Cond.fieldLink RX6 35 "ParallelUndo$Workers" "task" "[I", Cond.methodLink RX6 92 yX6_step, Cond.instanceMethod yX6_step, Cond.selects RX6 yX6_step yX6_step, Cond.code yX6_step cX6_step 3 none, Cond.methodLink RX6 106 yX6_goOn, Cond.instanceMethod yX6_goOn, Cond.selects RX6 yX6_goOn yX6_goOn, Cond.code yX6_goOn cX6_goOn 6 none, Cond.fieldLink RX6 38 "ParallelUndo$Workers" "taskCall" "[I"]
def wsX6_work_r2 : List Cond := [Cond.fieldLink RX6 123 "ParallelUndo$Bench" "attempts" "[LParallelUndo$Attempt;", Cond.fieldLink RX6 132 "ParallelUndo$Bench" "table" "LParallelUndo$Table;", Cond.methodLink RX6 136 yX0_doNext, Cond.instanceMethod yX0_doNext, Cond.selects RX0 yX0_doNext yX0_doNext, Cond.initialized RX0, Cond.code yX0_doNext cX0_doNext 10 (some .int), Cond.fieldLink RX0 34 "ParallelUndo$Attempt" "self" "I", Cond.fieldLink RX0 44 "ParallelUndo$Attempt" "next" "I", Cond.fieldLink RX0 88 "ParallelUndo$Block" "kind" "[I", Cond.fieldLink RX0 91 "ParallelUndo$Block" "first" "[I", Cond.fieldLink RX0 94 "ParallelUndo$Block" "second" "[I", Cond.fieldLink RX0 97 "ParallelUndo$Block" "value" "[J", Cond.fieldLink RX0 47 "ParallelUndo$Attempt" "done" "I", Cond.fieldLink RX0 41 "ParallelUndo$Attempt" "doneInAll" "I", Cond.methodLink RX0 84 yX0_isOver, Cond.instanceMethod yX0_isOver, Cond.selects RX0 yX0_isOver yX0_isOver, Cond.code yX0_isOver cX0_isOver 2 (some .boolean), Cond.fieldLink RX0 50 "ParallelUndo$Attempt" "failed" "Z", Cond.methodLink RX0 72 yX2_hasAct, Cond.instanceMethod yX2_hasAct, Cond.selects RX2 yX2_hasAct yX2_hasAct, Cond.initialized RX2]
def wsX6_work_r3 : List Cond := [Cond.code yX2_hasAct cX2_hasAct 3 (some .boolean), Cond.fieldLink RX2 28 "ParallelUndo$Block" "calls" "I", Cond.fieldLink RX2 9 "ParallelUndo$Block" "acts" "[I", Cond.methodLink RX0 102 yX0_leafAt, Cond.instanceMethod yX0_leafAt, Cond.selects RX0 yX0_leafAt yX0_leafAt, Cond.code yX0_leafAt cX0_leafAt 4 (some .int), Cond.fieldLink RX0 18 "ParallelUndo$Attempt" "register" "[J", Cond.constantLong RX0 114 (31), Cond.methodLink RX0 106 yX0_read, Cond.instanceMethod yX0_read, Cond.selects RX0 yX0_read yX0_read, Cond.code yX0_read cX0_read 5 (some .int), Cond.fieldLink RX0 9 "ParallelUndo$Attempt" "written" "[J", Cond.fieldLink RX0 57 "ParallelUndo$Attempt" "keptMask" "I", Cond.fieldLink RX0 21 "ParallelUndo$Attempt" "keptValue" "[J", Cond.methodLink RX0 116 yX0_hasWritten, Cond.instanceMethod yX0_hasWritten, Cond.selects RX0 yX0_hasWritten yX0_hasWritten, Cond.code yX0_hasWritten cX0_hasWritten 2 (some .boolean), Cond.fieldLink RX0 60 "ParallelUndo$Attempt" "writtenMask" "I", Cond.methodLink RX0 120 yX5_writerBelow, Cond.instanceMethod yX5_writerBelow, Cond.selects RX5 yX5_writerBelow yX5_writerBelow]
def wsX6_work_r4 : List Cond := [Cond.initialized RX5, Cond.code yX5_writerBelow cX5_writerBelow 4 (some .int), Cond.fieldLink RX5 15 "ParallelUndo$Table" "state" "[I", Cond.methodLink RX0 126 yX5_isPerhaps, Cond.instanceMethod yX5_isPerhaps, Cond.selects RX5 yX5_isPerhaps yX5_isPerhaps, Cond.code yX5_isPerhaps cX5_isPerhaps 3 (some .boolean), Cond.methodLink RX0 129 yX5_numberOf, Cond.instanceMethod yX5_numberOf, Cond.selects RX5 yX5_numberOf yX5_numberOf, Cond.code yX5_numberOf cX5_numberOf 3 (some .int), Cond.fieldLink RX5 19 "ParallelUndo$Table" "number" "[I", Cond.methodLink RX0 132 yX5_valueOf, Cond.instanceMethod yX5_valueOf, Cond.selects RX5 yX5_valueOf yX5_valueOf, Cond.code yX5_valueOf cX5_valueOf 3 (some .long), Cond.fieldLink RX5 9 "ParallelUndo$Table" "before" "[J", Cond.fieldLink RX5 22 "ParallelUndo$Table" "value" "[J", Cond.methodLink RX0 136 yX0_keep, Cond.instanceMethod yX0_keep, Cond.selects RX0 yX0_keep yX0_keep, Cond.code yX0_keep cX0_keep 6 none, Cond.fieldLink RX0 54 "ParallelUndo$Attempt" "kept" "I", Cond.fieldLink RX0 24 "ParallelUndo$Attempt" "keptLeaf" "[I"]
def wsX6_work_r5 : List Cond := [Cond.fieldLink RX0 28 "ParallelUndo$Attempt" "keptWriter" "[I", Cond.fieldLink RX0 31 "ParallelUndo$Attempt" "keptNumber" "[I", Cond.methodLink RX0 110 yX0_perform, Cond.instanceMethod yX0_perform, Cond.selects RX0 yX0_perform yX0_perform, Cond.code yX0_perform cX0_perform 6 none, Cond.methodLink RX0 139 yX0_write, Cond.instanceMethod yX0_write, Cond.selects RX0 yX0_write yX0_write, Cond.code yX0_write cX0_write 4 none, Cond.methodLink RX0 143 yX0_raise, Cond.instanceMethod yX0_raise, Cond.selects RX0 yX0_raise yX0_raise, Cond.code yX0_raise cX0_raise 3 none, Cond.fieldLink RX0 63 "ParallelUndo$Attempt" "eventCount" "I", Cond.fieldLink RX0 15 "ParallelUndo$Attempt" "eventValue" "[J", Cond.methodLink RX0 147 yX0_fail, Cond.instanceMethod yX0_fail, Cond.selects RX0 yX0_fail yX0_fail, Cond.code yX0_fail cX0_fail 1 none, Cond.methodLink RX6 140 yX6_giveUp, Cond.instanceMethod yX6_giveUp, Cond.selects RX6 yX6_giveUp yX6_giveUp, Cond.code yX6_giveUp cX6_giveUp 4 none]
def wsX6_work_r6 : List Cond := [Cond.fieldLink RX6 25 "ParallelUndo$Workers" "status" "[I", Cond.fieldLink RX6 29 "ParallelUndo$Workers" "awaited" "[I", Cond.fieldLink RX6 61 "ParallelUndo$Workers" "givenUp" "I", Cond.fieldLink RX6 21 "ParallelUndo$Workers" "conflicts" "LParallelUndo$Conflicts;", Cond.methodLink RX6 151 yX3_note, Cond.instanceMethod yX3_note, Cond.selects RX3 yX3_note yX3_note, Cond.initialized RX3, Cond.code yX3_note cX3_note 3 none, Cond.fieldLink RX3 16 "ParallelUndo$Conflicts" "count" "I", Cond.fieldLink RX3 9 "ParallelUndo$Conflicts" "hit" "[I", Cond.fieldLink RX3 13 "ParallelUndo$Conflicts" "by" "[I", Cond.methodLink RX6 144 yX0_isOver, Cond.methodLink RX6 148 yX6_end, Cond.instanceMethod yX6_end, Cond.selects RX6 yX6_end yX6_end, Cond.code yX6_end cX6_end 4 none, Cond.fieldLink RX6 32 "ParallelUndo$Workers" "number" "[I", Cond.methodLink RX6 154 yX5_publish, Cond.instanceMethod yX5_publish, Cond.selects RX5 yX5_publish yX5_publish, Cond.code yX5_publish cX5_publish 6 (some .boolean), Cond.fieldLink RX5 45 "ParallelUndo$Attempt" "self" "I", Cond.fieldLink RX5 55 "ParallelUndo$Attempt" "written" "[J"]
def wsX6_work_r7 : List Cond := [Cond.methodLink RX5 51 yX0_hasWritten, Cond.methodLink RX6 160 yX6_wakeThoseWaitingFor, Cond.instanceMethod yX6_wakeThoseWaitingFor, Cond.selects RX6 yX6_wakeThoseWaitingFor yX6_wakeThoseWaitingFor, Cond.code yX6_wakeThoseWaitingFor cX6_wakeThoseWaitingFor 3 none, Cond.methodLink RX6 163 Lib.Math.min.name, Cond.static Lib.Math.min.name, Cond.initialized "java/lang/Math", Cond.code Lib.Math.min.name Lib.Math.min.code 2 (some .int), Cond.methodLink RX6 116 yX6_giveLook, Cond.instanceMethod yX6_giveLook, Cond.selects RX6 yX6_giveLook yX6_giveLook, Cond.code yX6_giveLook cX6_giveLook 3 none, Cond.fieldLink RX6 41 "ParallelUndo$Workers" "taskNumber" "[I", Cond.methodLink RX6 109 yX6_look, Cond.instanceMethod yX6_look, Cond.selects RX6 yX6_look yX6_look, Cond.code yX6_look cX6_look 4 none, Cond.fieldLink RX6 55 "ParallelUndo$Workers" "looks" "I", Cond.methodLink RX6 169 yX0_firstChanged, Cond.instanceMethod yX0_firstChanged, Cond.selects RX0 yX0_firstChanged yX0_firstChanged, Cond.code yX0_firstChanged cX0_firstChanged 5 (some .int), Cond.methodLink RX6 173 yX5_writerBelow]
def wsX6_work_r8 : List Cond := [Cond.methodLink RX6 176 yX6_undo, Cond.instanceMethod yX6_undo, Cond.selects RX6 yX6_undo yX6_undo, Cond.code yX6_undo cX6_undo 2 none, Cond.fieldLink RX6 58 "ParallelUndo$Workers" "undone" "I", Cond.fieldLink RX6 71 "ParallelUndo$Workers" "fallBound" "I", Cond.methodLink RX6 179 yX5_doubt, Cond.instanceMethod yX5_doubt, Cond.selects RX5 yX5_doubt yX5_doubt, Cond.code yX5_doubt cX5_doubt 3 none, Cond.methodLink RX6 120 yX6_giveRun, Cond.instanceMethod yX6_giveRun, Cond.selects RX6 yX6_giveRun yX6_giveRun, Cond.code yX6_giveRun cX6_giveRun 3 none, Cond.methodLink RX6 127 yX0_begin, Cond.instanceMethod yX0_begin, Cond.selects RX0 yX0_begin yX0_begin, Cond.code yX0_begin cX0_begin 1 none, Cond.fieldLink RX0 38 "ParallelUndo$Attempt" "began" "I", Cond.methodLink RX0 66 yJ7_fill_d0a16, Cond.static yJ7_fill_d0a16, Cond.initialized RJ7, Cond.code yJ7_fill_d0a16 cJ7_fill_d0a16 5 none, Cond.methodLink RX6 113 yX6_takeTask]
def wsX6_work_r9 : List Cond := [Cond.instanceMethod yX6_takeTask, Cond.selects RX6 yX6_takeTask yX6_takeTask, Cond.code yX6_takeTask cX6_takeTask 3 none, Cond.methodLink RX6 96 yX1_runOneByOne, Cond.instanceMethod yX1_runOneByOne, Cond.selects RX1 yX1_runOneByOne yX1_runOneByOne, Cond.initialized RX1, Cond.code yX1_runOneByOne cX1_runOneByOne 5 none, Cond.fieldLink RX1 33 "ParallelUndo$Bench" "calls" "I", Cond.fieldLink RX1 20 "ParallelUndo$Bench" "attempts" "[LParallelUndo$Attempt;", Cond.fieldLink RX1 12 "ParallelUndo$Bench" "table" "LParallelUndo$Table;", Cond.methodLink RX1 40 yX0_begin, Cond.methodLink RX1 43 yX0_isOver, Cond.methodLink RX1 47 yX0_doNext, Cond.methodLink RX1 51 yX5_publish, Cond.methodLink RX6 100 yX1_formGroups, Cond.instanceMethod yX1_formGroups, Cond.selects RX1 yX1_formGroups yX1_formGroups, Cond.code yX1_formGroups cX1_formGroups 2 none, Cond.fieldLink RX1 55 "ParallelUndo$Attempt" "group" "I", Cond.methodLink RX1 58 yX1_joinTouching, Cond.instanceMethod yX1_joinTouching, Cond.selects RX1 yX1_joinTouching yX1_joinTouching, Cond.code yX1_joinTouching cX1_joinTouching 4 none]
def wsX6_work_r10 : List Cond := [Cond.methodLink RX1 61 yX0_touched, Cond.instanceMethod yX0_touched, Cond.selects RX0 yX0_touched yX0_touched, Cond.code yX0_touched cX0_touched 2 (some .boolean), Cond.methodLink RX1 65 yX1_joinGroups, Cond.instanceMethod yX1_joinGroups, Cond.selects RX1 yX1_joinGroups yX1_joinGroups, Cond.code yX1_joinGroups cX1_joinGroups 6 none, Cond.methodLink RX1 69 Lib.Math.min.name]
def wsX6_work : List Cond := .code yX6_work cX6_work 4 none :: ((wsX6_work_r1 ++ (wsX6_work_r2 ++ (wsX6_work_r3 ++ (wsX6_work_r4 ++ (wsX6_work_r5 ++ (wsX6_work_r6 ++ (wsX6_work_r7 ++ (wsX6_work_r8 ++ (wsX6_work_r9 ++ wsX6_work_r10))))))))) ++ wsX60 ++ wsX10 ++ wsX00 ++ wsX20 ++ wsX50 ++ wsX30)
def wsX6_tell : List Cond := .code yX6_tell cX6_tell 2 (some .int) :: ([.fieldLink RX6 52 "ParallelUndo$Workers" "turns" "I", .fieldLink RX6 64 "ParallelUndo$Workers" "fell" "Z", .fieldLink RX6 55 "ParallelUndo$Workers" "looks" "I", .fieldLink RX6 58 "ParallelUndo$Workers" "undone" "I", .fieldLink RX6 61 "ParallelUndo$Workers" "givenUp" "I", .fieldLink RX6 12 "ParallelUndo$Workers" "bench" "LParallelUndo$Bench;", .fieldLink RX6 103 "ParallelUndo$Bench" "calls" "I", .methodLink RX6 182 yX1_countActs, .instanceMethod yX1_countActs, .selects RX1 yX1_countActs yX1_countActs, .initialized RX1, .code yX1_countActs cX1_countActs 3 (some .int), .fieldLink RX1 33 "ParallelUndo$Bench" "calls" "I", .fieldLink RX1 20 "ParallelUndo$Bench" "attempts" "[LParallelUndo$Attempt;", .fieldLink RX1 75 "ParallelUndo$Attempt" "doneInAll" "I", .methodLink RX6 186 yX1_countGroups, .instanceMethod yX1_countGroups, .selects RX1 yX1_countGroups yX1_countGroups, .code yX1_countGroups cX1_countGroups 3 (some .int), .fieldLink RX1 55 "ParallelUndo$Attempt" "group" "I"] ++ wsX60 ++ wsX10 ++ wsX00)
def wsX7_init_r1 : List Cond := [Cond.methodLink RX7 1 objectInit, Cond.instanceMethod objectInit, Cond.code objectInit ⟨#[0xb1]⟩ 1 none, Cond.arrayClass .long, Cond.fieldLink RX7 9 "ParallelUndo" "leaves" "[J", Cond.classLink RX7 13 RX2, Cond.instantiable RX2 6, Cond.initialized RX2, Cond.fieldLink RX7 16 "ParallelUndo" "block" "LParallelUndo$Block;", Cond.classLink RX7 20 RX6, Cond.instantiable RX6 17, Cond.initialized RX6, Cond.fieldLink RX7 23 "ParallelUndo" "latest" "LParallelUndo$Workers;", Cond.classLink RX7 27 RX1, Cond.instantiable RX1 3, Cond.initialized RX1, Cond.fieldLink RX7 30 "ParallelUndo" "trial" "LParallelUndo$Bench;", Cond.fieldLink RX7 34 "ParallelUndo" "fallBound" "I", Cond.instanceMethod yX2_init, Cond.code yX2_init cX2_init 1 none, Cond.methodLink RX2 3 objectInit, Cond.arrayClass .int, Cond.fieldLink RX2 9 "ParallelUndo$Block" "acts" "[I", Cond.fieldLink RX2 15 "ParallelUndo$Block" "kind" "[I"]
def wsX7_init_r2 : List Cond := [Cond.fieldLink RX2 18 "ParallelUndo$Block" "first" "[I", Cond.fieldLink RX2 21 "ParallelUndo$Block" "second" "[I", Cond.fieldLink RX2 24 "ParallelUndo$Block" "value" "[J", Cond.instanceMethod yX6_init, Cond.code yX6_init cX6_init 1 none, Cond.methodLink RX6 3 objectInit, Cond.classLink RX6 9 RX1, Cond.fieldLink RX6 12 "ParallelUndo$Workers" "bench" "LParallelUndo$Bench;", Cond.classLink RX6 18 RX3, Cond.instantiable RX3 3, Cond.initialized RX3, Cond.fieldLink RX6 21 "ParallelUndo$Workers" "conflicts" "LParallelUndo$Conflicts;", Cond.fieldLink RX6 25 "ParallelUndo$Workers" "status" "[I", Cond.fieldLink RX6 29 "ParallelUndo$Workers" "awaited" "[I", Cond.fieldLink RX6 32 "ParallelUndo$Workers" "number" "[I", Cond.fieldLink RX6 35 "ParallelUndo$Workers" "task" "[I", Cond.fieldLink RX6 38 "ParallelUndo$Workers" "taskCall" "[I", Cond.fieldLink RX6 41 "ParallelUndo$Workers" "taskNumber" "[I", Cond.methodLink RX6 11 yX1_init, Cond.instanceMethod yX1_init, Cond.code yX1_init cX1_init 2 none, Cond.methodLink RX1 3 objectInit, Cond.classLink RX1 9 RX5, Cond.instantiable RX5 4]
def wsX7_init_r3 : List Cond := [Cond.initialized RX5, Cond.fieldLink RX1 12 "ParallelUndo$Bench" "table" "LParallelUndo$Table;", Cond.classLink RX1 18 RX0, Cond.fieldLink RX1 20 "ParallelUndo$Bench" "attempts" "[LParallelUndo$Attempt;", Cond.instantiable RX0 18, Cond.initialized RX0, Cond.instanceMethod yX5_init, Cond.code yX5_init cX5_init 1 none, Cond.methodLink RX5 3 objectInit, Cond.fieldLink RX5 9 "ParallelUndo$Table" "before" "[J", Cond.fieldLink RX5 15 "ParallelUndo$Table" "state" "[I", Cond.fieldLink RX5 19 "ParallelUndo$Table" "number" "[I", Cond.fieldLink RX5 22 "ParallelUndo$Table" "value" "[J", Cond.methodLink RX1 24 yX0_init, Cond.instanceMethod yX0_init, Cond.code yX0_init cX0_init 2 none, Cond.methodLink RX0 3 objectInit, Cond.fieldLink RX0 9 "ParallelUndo$Attempt" "written" "[J", Cond.fieldLink RX0 15 "ParallelUndo$Attempt" "eventValue" "[J", Cond.fieldLink RX0 18 "ParallelUndo$Attempt" "register" "[J", Cond.fieldLink RX0 21 "ParallelUndo$Attempt" "keptValue" "[J", Cond.fieldLink RX0 24 "ParallelUndo$Attempt" "keptLeaf" "[I", Cond.fieldLink RX0 28 "ParallelUndo$Attempt" "keptWriter" "[I", Cond.fieldLink RX0 31 "ParallelUndo$Attempt" "keptNumber" "[I"]
def wsX7_init_r4 : List Cond := [Cond.fieldLink RX0 34 "ParallelUndo$Attempt" "self" "I", Cond.instanceMethod yX3_init, Cond.code yX3_init cX3_init 1 none, Cond.methodLink RX3 1 objectInit, Cond.fieldLink RX3 9 "ParallelUndo$Conflicts" "hit" "[I", Cond.fieldLink RX3 13 "ParallelUndo$Conflicts" "by" "[I", Cond.methodLink RX7 29 yX1_init]
def wsX7_init : List Cond := .code yX7_init cX7_init 1 none :: ((wsX7_init_r1 ++ (wsX7_init_r2 ++ (wsX7_init_r3 ++ wsX7_init_r4))) ++ wsX70 ++ wsX20 ++ wsX60 ++ wsX10 ++ wsX30 ++ wsX50 ++ wsX00)
def wsX7_call : List Cond := .code yX7_call cX7_call 1 (some .int) :: ([.fieldLink RX7 16 "ParallelUndo" "block" "LParallelUndo$Block;", .methodLink RX7 38 yX2_addCall, .instanceMethod yX2_addCall, .selects RX2 yX2_addCall yX2_addCall, .initialized RX2, .code yX2_addCall cX2_addCall 1 (some .int), .fieldLink RX2 28 "ParallelUndo$Block" "calls" "I", .fieldLink RX2 9 "ParallelUndo$Block" "acts" "[I"] ++ wsX70 ++ wsX20)
def wsX7_act_r1 : List Cond := [Cond.fieldLink RX7 16 "ParallelUndo" "block" "LParallelUndo$Block;", Cond.methodLink RX7 42 yX4_allows, Cond.static yX4_allows, Cond.initialized RX4, Cond.code yX4_allows cX4_allows 5 (some .boolean), Cond.methodLink RX4 11 yX4_isRegister, Cond.static yX4_isRegister, Cond.code yX4_isRegister cX4_isRegister 1 (some .boolean), Cond.methodLink RX4 15 yX4_hasSecond, Cond.static yX4_hasSecond, Cond.code yX4_hasSecond cX4_hasSecond 1 (some .boolean), Cond.methodLink RX4 18 yX4_allowsValue, Cond.static yX4_allowsValue, Cond.code yX4_allowsValue cX4_allowsValue 3 (some .boolean), Cond.constantLong RX4 22 (12), Cond.methodLink RX7 48 yX2_addAct, Cond.instanceMethod yX2_addAct, Cond.selects RX2 yX2_addAct yX2_addAct, Cond.initialized RX2, Cond.code yX2_addAct cX2_addAct 8 (some .int), Cond.fieldLink RX2 28 "ParallelUndo$Block" "calls" "I", Cond.fieldLink RX2 9 "ParallelUndo$Block" "acts" "[I", Cond.fieldLink RX2 15 "ParallelUndo$Block" "kind" "[I", Cond.fieldLink RX2 18 "ParallelUndo$Block" "first" "[I"]
def wsX7_act_r2 : List Cond := [Cond.fieldLink RX2 21 "ParallelUndo$Block" "second" "[I", Cond.fieldLink RX2 24 "ParallelUndo$Block" "value" "[J"]
def wsX7_act : List Cond := .code yX7_act cX7_act 7 (some .int) :: ((wsX7_act_r1 ++ wsX7_act_r2) ++ wsX70 ++ wsX20)
def wsX7_clear : List Cond := .code yX7_clear cX7_clear 1 (some .int) :: ([.fieldLink RX7 16 "ParallelUndo" "block" "LParallelUndo$Block;", .methodLink RX7 52 yX2_dropCalls, .instanceMethod yX2_dropCalls, .selects RX2 yX2_dropCalls yX2_dropCalls, .initialized RX2, .code yX2_dropCalls cX2_dropCalls 2 (some .int), .fieldLink RX2 28 "ParallelUndo$Block" "calls" "I"] ++ wsX70 ++ wsX20)
def wsX7_isLeaf : List Cond := .code yX7_isLeaf cX7_isLeaf 1 (some .boolean) :: ([])
def wsX7_leaf : List Cond := .code yX7_leaf cX7_leaf 4 (some .boolean) :: ([.fieldLink RX7 9 "ParallelUndo" "leaves" "[J", .methodLink RX7 55 yX7_isLeaf, .static yX7_isLeaf, .initialized RX7, .code yX7_isLeaf cX7_isLeaf 1 (some .boolean)] ++ wsX70)
def wsX7_bound : List Cond := .code yX7_bound cX7_bound 2 (some .boolean) :: ([.fieldLink RX7 34 "ParallelUndo" "fallBound" "I"] ++ wsX70)
def wsX7_run_r1 : List Cond := [Cond.fieldLink RX7 23 "ParallelUndo" "latest" "LParallelUndo$Workers;", Cond.fieldLink RX7 16 "ParallelUndo" "block" "LParallelUndo$Block;", Cond.fieldLink RX7 9 "ParallelUndo" "leaves" "[J", Cond.fieldLink RX7 34 "ParallelUndo" "fallBound" "I", Cond.fieldLink RX7 67 "ParallelUndo$Workers" "bench" "LParallelUndo$Bench;", Cond.fieldLink RX7 70 "ParallelUndo$Bench" "table" "LParallelUndo$Table;", Cond.fieldLink RX7 80 "ParallelUndo$Workers" "turns" "I", Cond.methodLink RX7 59 yX6_open, Cond.instanceMethod yX6_open, Cond.selects RX6 yX6_open yX6_open, Cond.initialized RX6, Cond.code yX6_open cX6_open 5 none, Cond.fieldLink RX6 12 "ParallelUndo$Workers" "bench" "LParallelUndo$Bench;", Cond.fieldLink RX6 21 "ParallelUndo$Workers" "conflicts" "LParallelUndo$Conflicts;", Cond.fieldLink RX6 48 "ParallelUndo$Conflicts" "count" "I", Cond.fieldLink RX6 52 "ParallelUndo$Workers" "turns" "I", Cond.fieldLink RX6 55 "ParallelUndo$Workers" "looks" "I", Cond.fieldLink RX6 58 "ParallelUndo$Workers" "undone" "I", Cond.fieldLink RX6 61 "ParallelUndo$Workers" "givenUp" "I", Cond.fieldLink RX6 64 "ParallelUndo$Workers" "fell" "Z", Cond.fieldLink RX6 68 "ParallelUndo$Workers" "size" "I", Cond.fieldLink RX6 71 "ParallelUndo$Workers" "fallBound" "I", Cond.fieldLink RX6 74 "ParallelUndo$Workers" "runRow" "I", Cond.fieldLink RX6 77 "ParallelUndo$Workers" "lookRow" "I"]
def wsX7_run_r2 : List Cond := [Cond.fieldLink RX6 25 "ParallelUndo$Workers" "status" "[I", Cond.fieldLink RX6 29 "ParallelUndo$Workers" "awaited" "[I", Cond.fieldLink RX6 32 "ParallelUndo$Workers" "number" "[I", Cond.fieldLink RX6 35 "ParallelUndo$Workers" "task" "[I", Cond.methodLink RX6 44 yX1_open, Cond.instanceMethod yX1_open, Cond.selects RX1 yX1_open yX1_open, Cond.initialized RX1, Cond.code yX1_open cX1_open 4 none, Cond.fieldLink RX1 27 "ParallelUndo$Block" "calls" "I", Cond.fieldLink RX1 33 "ParallelUndo$Bench" "calls" "I", Cond.fieldLink RX1 12 "ParallelUndo$Bench" "table" "LParallelUndo$Table;", Cond.fieldLink RX1 20 "ParallelUndo$Bench" "attempts" "[LParallelUndo$Attempt;", Cond.methodLink RX1 34 yX5_open, Cond.instanceMethod yX5_open, Cond.selects RX5 yX5_open yX5_open, Cond.initialized RX5, Cond.code yX5_open cX5_open 2 none, Cond.fieldLink RX5 9 "ParallelUndo$Table" "before" "[J", Cond.methodLink RX5 25 arraycopyName, Cond.native arraycopyName, Cond.static arraycopyName, Cond.initialized "java/lang/System", Cond.fieldLink RX5 15 "ParallelUndo$Table" "state" "[I"]
def wsX7_run_r3 : List Cond := [Cond.methodLink RX5 31 yJ7_fill_53178, Cond.static yJ7_fill_53178, Cond.initialized RJ7, Cond.code yJ7_fill_53178 cJ7_fill_53178 4 none, Cond.methodLink RX1 38 yX0_open, Cond.instanceMethod yX0_open, Cond.selects RX0 yX0_open yX0_open, Cond.initialized RX0, Cond.code yX0_open cX0_open 1 none, Cond.fieldLink RX0 38 "ParallelUndo$Attempt" "began" "I", Cond.fieldLink RX0 41 "ParallelUndo$Attempt" "doneInAll" "I", Cond.methodLink RX6 80 yJ7_fill_53178, Cond.methodLink RX7 63 yX6_work, Cond.instanceMethod yX6_work, Cond.selects RX6 yX6_work yX6_work, Cond.code yX6_work cX6_work 4 none, Cond.constant RX6 86 (1000000), Cond.constant RX6 91 (1103515245), Cond.methodLink RX6 87 yX6_isDone, Cond.instanceMethod yX6_isDone, Cond.selects RX6 yX6_isDone yX6_isDone, Cond.code yX6_isDone cX6_isDone 2 (some .boolean), Cond.fieldLink RX6 103 "ParallelUndo$Bench" "calls" "I", Cond.methodLink RX6 92 yX6_step]
def wsX7_run_r4 : List Cond := [Cond.instanceMethod yX6_step, Cond.selects RX6 yX6_step yX6_step, Cond.code yX6_step cX6_step 3 none, Cond.methodLink RX6 106 yX6_goOn, Cond.instanceMethod yX6_goOn, Cond.selects RX6 yX6_goOn yX6_goOn, Cond.code yX6_goOn cX6_goOn 6 none, Cond.fieldLink RX6 38 "ParallelUndo$Workers" "taskCall" "[I", Cond.fieldLink RX6 123 "ParallelUndo$Bench" "attempts" "[LParallelUndo$Attempt;", Cond.fieldLink RX6 132 "ParallelUndo$Bench" "table" "LParallelUndo$Table;", Cond.methodLink RX6 136 yX0_doNext, Cond.instanceMethod yX0_doNext, Cond.selects RX0 yX0_doNext yX0_doNext, Cond.code yX0_doNext cX0_doNext 10 (some .int), Cond.fieldLink RX0 34 "ParallelUndo$Attempt" "self" "I", Cond.fieldLink RX0 44 "ParallelUndo$Attempt" "next" "I", Cond.fieldLink RX0 88 "ParallelUndo$Block" "kind" "[I", Cond.fieldLink RX0 91 "ParallelUndo$Block" "first" "[I", Cond.fieldLink RX0 94 "ParallelUndo$Block" "second" "[I", Cond.fieldLink RX0 97 "ParallelUndo$Block" "value" "[J", Cond.fieldLink RX0 47 "ParallelUndo$Attempt" "done" "I", Cond.methodLink RX0 84 yX0_isOver, Cond.instanceMethod yX0_isOver, Cond.selects RX0 yX0_isOver yX0_isOver]
def wsX7_run_r5 : List Cond := [Cond.code yX0_isOver cX0_isOver 2 (some .boolean), Cond.fieldLink RX0 50 "ParallelUndo$Attempt" "failed" "Z", Cond.methodLink RX0 72 yX2_hasAct, Cond.instanceMethod yX2_hasAct, Cond.selects RX2 yX2_hasAct yX2_hasAct, Cond.initialized RX2, Cond.code yX2_hasAct cX2_hasAct 3 (some .boolean), Cond.fieldLink RX2 28 "ParallelUndo$Block" "calls" "I", Cond.fieldLink RX2 9 "ParallelUndo$Block" "acts" "[I", Cond.methodLink RX0 102 yX0_leafAt, Cond.instanceMethod yX0_leafAt, Cond.selects RX0 yX0_leafAt yX0_leafAt, Cond.code yX0_leafAt cX0_leafAt 4 (some .int), Cond.fieldLink RX0 18 "ParallelUndo$Attempt" "register" "[J", Cond.constantLong RX0 114 (31), Cond.methodLink RX0 106 yX0_read, Cond.instanceMethod yX0_read, Cond.selects RX0 yX0_read yX0_read, Cond.code yX0_read cX0_read 5 (some .int), Cond.fieldLink RX0 9 "ParallelUndo$Attempt" "written" "[J", Cond.fieldLink RX0 57 "ParallelUndo$Attempt" "keptMask" "I", Cond.fieldLink RX0 21 "ParallelUndo$Attempt" "keptValue" "[J", Cond.methodLink RX0 116 yX0_hasWritten, Cond.instanceMethod yX0_hasWritten]
def wsX7_run_r6 : List Cond := [Cond.selects RX0 yX0_hasWritten yX0_hasWritten, Cond.code yX0_hasWritten cX0_hasWritten 2 (some .boolean), Cond.fieldLink RX0 60 "ParallelUndo$Attempt" "writtenMask" "I", Cond.methodLink RX0 120 yX5_writerBelow, Cond.instanceMethod yX5_writerBelow, Cond.selects RX5 yX5_writerBelow yX5_writerBelow, Cond.code yX5_writerBelow cX5_writerBelow 4 (some .int), Cond.methodLink RX0 126 yX5_isPerhaps, Cond.instanceMethod yX5_isPerhaps, Cond.selects RX5 yX5_isPerhaps yX5_isPerhaps, Cond.code yX5_isPerhaps cX5_isPerhaps 3 (some .boolean), Cond.methodLink RX0 129 yX5_numberOf, Cond.instanceMethod yX5_numberOf, Cond.selects RX5 yX5_numberOf yX5_numberOf, Cond.code yX5_numberOf cX5_numberOf 3 (some .int), Cond.fieldLink RX5 19 "ParallelUndo$Table" "number" "[I", Cond.methodLink RX0 132 yX5_valueOf, Cond.instanceMethod yX5_valueOf, Cond.selects RX5 yX5_valueOf yX5_valueOf, Cond.code yX5_valueOf cX5_valueOf 3 (some .long), Cond.fieldLink RX5 22 "ParallelUndo$Table" "value" "[J", Cond.methodLink RX0 136 yX0_keep, Cond.instanceMethod yX0_keep, Cond.selects RX0 yX0_keep yX0_keep]
def wsX7_run_r7 : List Cond := [Cond.code yX0_keep cX0_keep 6 none, Cond.fieldLink RX0 54 "ParallelUndo$Attempt" "kept" "I", Cond.fieldLink RX0 24 "ParallelUndo$Attempt" "keptLeaf" "[I", Cond.fieldLink RX0 28 "ParallelUndo$Attempt" "keptWriter" "[I", Cond.fieldLink RX0 31 "ParallelUndo$Attempt" "keptNumber" "[I", Cond.methodLink RX0 110 yX0_perform, Cond.instanceMethod yX0_perform, Cond.selects RX0 yX0_perform yX0_perform, Cond.code yX0_perform cX0_perform 6 none, Cond.methodLink RX0 139 yX0_write, Cond.instanceMethod yX0_write, Cond.selects RX0 yX0_write yX0_write, Cond.code yX0_write cX0_write 4 none, Cond.methodLink RX0 143 yX0_raise, Cond.instanceMethod yX0_raise, Cond.selects RX0 yX0_raise yX0_raise, Cond.code yX0_raise cX0_raise 3 none, Cond.fieldLink RX0 63 "ParallelUndo$Attempt" "eventCount" "I", Cond.fieldLink RX0 15 "ParallelUndo$Attempt" "eventValue" "[J", Cond.methodLink RX0 147 yX0_fail, Cond.instanceMethod yX0_fail, Cond.selects RX0 yX0_fail yX0_fail, Cond.code yX0_fail cX0_fail 1 none, Cond.methodLink RX6 140 yX6_giveUp]
def wsX7_run_r8 : List Cond := [Cond.instanceMethod yX6_giveUp, Cond.selects RX6 yX6_giveUp yX6_giveUp, Cond.code yX6_giveUp cX6_giveUp 4 none, Cond.methodLink RX6 151 yX3_note, Cond.instanceMethod yX3_note, Cond.selects RX3 yX3_note yX3_note, Cond.initialized RX3, Cond.code yX3_note cX3_note 3 none, Cond.fieldLink RX3 16 "ParallelUndo$Conflicts" "count" "I", Cond.fieldLink RX3 9 "ParallelUndo$Conflicts" "hit" "[I", Cond.fieldLink RX3 13 "ParallelUndo$Conflicts" "by" "[I", Cond.methodLink RX6 144 yX0_isOver, Cond.methodLink RX6 148 yX6_end, Cond.instanceMethod yX6_end, Cond.selects RX6 yX6_end yX6_end, Cond.code yX6_end cX6_end 4 none, Cond.methodLink RX6 154 yX5_publish, Cond.instanceMethod yX5_publish, Cond.selects RX5 yX5_publish yX5_publish, Cond.code yX5_publish cX5_publish 6 (some .boolean), Cond.fieldLink RX5 45 "ParallelUndo$Attempt" "self" "I", Cond.fieldLink RX5 55 "ParallelUndo$Attempt" "written" "[J", Cond.methodLink RX5 51 yX0_hasWritten, Cond.methodLink RX6 160 yX6_wakeThoseWaitingFor]
def wsX7_run_r9 : List Cond := [Cond.instanceMethod yX6_wakeThoseWaitingFor, Cond.selects RX6 yX6_wakeThoseWaitingFor yX6_wakeThoseWaitingFor, Cond.code yX6_wakeThoseWaitingFor cX6_wakeThoseWaitingFor 3 none, Cond.methodLink RX6 163 Lib.Math.min.name, Cond.static Lib.Math.min.name, Cond.initialized "java/lang/Math", Cond.code Lib.Math.min.name Lib.Math.min.code 2 (some .int), Cond.methodLink RX6 116 yX6_giveLook, Cond.instanceMethod yX6_giveLook, Cond.selects RX6 yX6_giveLook yX6_giveLook, Cond.code yX6_giveLook cX6_giveLook 3 none, Cond.fieldLink RX6 41 "ParallelUndo$Workers" "taskNumber" "[I", Cond.methodLink RX6 109 yX6_look, Cond.instanceMethod yX6_look, Cond.selects RX6 yX6_look yX6_look, Cond.code yX6_look cX6_look 4 none, Cond.methodLink RX6 169 yX0_firstChanged, Cond.instanceMethod yX0_firstChanged, Cond.selects RX0 yX0_firstChanged yX0_firstChanged, Cond.code yX0_firstChanged cX0_firstChanged 5 (some .int), Cond.methodLink RX6 173 yX5_writerBelow, Cond.methodLink RX6 176 yX6_undo, Cond.instanceMethod yX6_undo, Cond.selects RX6 yX6_undo yX6_undo]
def wsX7_run_r10 : List Cond := [Cond.code yX6_undo cX6_undo 2 none, Cond.methodLink RX6 179 yX5_doubt, Cond.instanceMethod yX5_doubt, Cond.selects RX5 yX5_doubt yX5_doubt, Cond.code yX5_doubt cX5_doubt 3 none, Cond.methodLink RX6 120 yX6_giveRun, Cond.instanceMethod yX6_giveRun, Cond.selects RX6 yX6_giveRun yX6_giveRun, Cond.code yX6_giveRun cX6_giveRun 3 none, Cond.methodLink RX6 127 yX0_begin, Cond.instanceMethod yX0_begin, Cond.selects RX0 yX0_begin yX0_begin, Cond.code yX0_begin cX0_begin 1 none, Cond.methodLink RX0 66 yJ7_fill_d0a16, Cond.static yJ7_fill_d0a16, Cond.code yJ7_fill_d0a16 cJ7_fill_d0a16 5 none, Cond.methodLink RX6 113 yX6_takeTask, Cond.instanceMethod yX6_takeTask, Cond.selects RX6 yX6_takeTask yX6_takeTask, Cond.code yX6_takeTask cX6_takeTask 3 none, Cond.methodLink RX6 96 yX1_runOneByOne, Cond.instanceMethod yX1_runOneByOne, Cond.selects RX1 yX1_runOneByOne yX1_runOneByOne, Cond.code yX1_runOneByOne cX1_runOneByOne 5 none]
def wsX7_run_r11 : List Cond := [Cond.methodLink RX1 40 yX0_begin, Cond.methodLink RX1 43 yX0_isOver, Cond.methodLink RX1 47 yX0_doNext, Cond.methodLink RX1 51 yX5_publish, Cond.methodLink RX6 100 yX1_formGroups, Cond.instanceMethod yX1_formGroups, Cond.selects RX1 yX1_formGroups yX1_formGroups, Cond.code yX1_formGroups cX1_formGroups 2 none, Cond.fieldLink RX1 55 "ParallelUndo$Attempt" "group" "I", Cond.methodLink RX1 58 yX1_joinTouching, Cond.instanceMethod yX1_joinTouching, Cond.selects RX1 yX1_joinTouching yX1_joinTouching, Cond.code yX1_joinTouching cX1_joinTouching 4 none, Cond.methodLink RX1 61 yX0_touched, Cond.instanceMethod yX0_touched, Cond.selects RX0 yX0_touched yX0_touched, Cond.code yX0_touched cX0_touched 2 (some .boolean), Cond.methodLink RX1 65 yX1_joinGroups, Cond.instanceMethod yX1_joinGroups, Cond.selects RX1 yX1_joinGroups yX1_joinGroups, Cond.code yX1_joinGroups cX1_joinGroups 6 none, Cond.methodLink RX1 69 Lib.Math.min.name, Cond.methodLink RX7 74 yX5_valueAfter, Cond.instanceMethod yX5_valueAfter]
def wsX7_run_r12 : List Cond := [Cond.selects RX5 yX5_valueAfter yX5_valueAfter, Cond.code yX5_valueAfter cX5_valueAfter 2 (some .long), Cond.methodLink RX5 37 yX5_writerBelow, Cond.methodLink RX5 41 yX5_valueOf]
def wsX7_run : List Cond := .code yX7_run cX7_run 4 (some .int) :: ((wsX7_run_r1 ++ (wsX7_run_r2 ++ (wsX7_run_r3 ++ (wsX7_run_r4 ++ (wsX7_run_r5 ++ (wsX7_run_r6 ++ (wsX7_run_r7 ++ (wsX7_run_r8 ++ (wsX7_run_r9 ++ (wsX7_run_r10 ++ (wsX7_run_r11 ++ wsX7_run_r12))))))))))) ++ wsX70 ++ wsX60 ++ wsX10 ++ wsX30 ++ wsX20 ++ wsX50 ++ wsX00)
def wsX7_at : List Cond := .code yX7_at cX7_at 2 (some .long) :: ([.fieldLink RX7 9 "ParallelUndo" "leaves" "[J", .methodLink RX7 55 yX7_isLeaf, .static yX7_isLeaf, .initialized RX7, .code yX7_isLeaf cX7_isLeaf 1 (some .boolean)] ++ wsX70)
def wsX7_inOrder_r1 : List Cond := [Cond.fieldLink RX7 30 "ParallelUndo" "trial" "LParallelUndo$Bench;", Cond.fieldLink RX7 16 "ParallelUndo" "block" "LParallelUndo$Block;", Cond.fieldLink RX7 9 "ParallelUndo" "leaves" "[J", Cond.fieldLink RX7 70 "ParallelUndo$Bench" "table" "LParallelUndo$Table;", Cond.methodLink RX7 55 yX7_isLeaf, Cond.static yX7_isLeaf, Cond.initialized RX7, Cond.code yX7_isLeaf cX7_isLeaf 1 (some .boolean), Cond.methodLink RX7 83 yX1_open, Cond.instanceMethod yX1_open, Cond.selects RX1 yX1_open yX1_open, Cond.initialized RX1, Cond.code yX1_open cX1_open 4 none, Cond.fieldLink RX1 27 "ParallelUndo$Block" "calls" "I", Cond.fieldLink RX1 33 "ParallelUndo$Bench" "calls" "I", Cond.fieldLink RX1 12 "ParallelUndo$Bench" "table" "LParallelUndo$Table;", Cond.fieldLink RX1 20 "ParallelUndo$Bench" "attempts" "[LParallelUndo$Attempt;", Cond.methodLink RX1 34 yX5_open, Cond.instanceMethod yX5_open, Cond.selects RX5 yX5_open yX5_open, Cond.initialized RX5, Cond.code yX5_open cX5_open 2 none, Cond.fieldLink RX5 9 "ParallelUndo$Table" "before" "[J", Cond.methodLink RX5 25 arraycopyName]
def wsX7_inOrder_r2 : List Cond := [Cond.native arraycopyName, Cond.static arraycopyName, Cond.initialized "java/lang/System", Cond.fieldLink RX5 15 "ParallelUndo$Table" "state" "[I", Cond.methodLink RX5 31 yJ7_fill_53178, Cond.static yJ7_fill_53178, Cond.initialized RJ7, Cond.code yJ7_fill_53178 cJ7_fill_53178 4 none, Cond.methodLink RX1 38 yX0_open, Cond.instanceMethod yX0_open, Cond.selects RX0 yX0_open yX0_open, Cond.initialized RX0, Cond.code yX0_open cX0_open 1 none, Cond.fieldLink RX0 38 "ParallelUndo$Attempt" "began" "I", Cond.fieldLink RX0 41 "ParallelUndo$Attempt" "doneInAll" "I", Cond.methodLink RX7 86 yX1_runOneByOne, Cond.instanceMethod yX1_runOneByOne, Cond.selects RX1 yX1_runOneByOne yX1_runOneByOne, Cond.code yX1_runOneByOne cX1_runOneByOne 5 none, Cond.methodLink RX1 40 yX0_begin, Cond.instanceMethod yX0_begin, Cond.selects RX0 yX0_begin yX0_begin, Cond.code yX0_begin cX0_begin 1 none, Cond.fieldLink RX0 44 "ParallelUndo$Attempt" "next" "I"]
def wsX7_inOrder_r3 : List Cond := [Cond.fieldLink RX0 47 "ParallelUndo$Attempt" "done" "I", Cond.fieldLink RX0 50 "ParallelUndo$Attempt" "failed" "Z", Cond.fieldLink RX0 54 "ParallelUndo$Attempt" "kept" "I", Cond.fieldLink RX0 57 "ParallelUndo$Attempt" "keptMask" "I", Cond.fieldLink RX0 60 "ParallelUndo$Attempt" "writtenMask" "I", Cond.fieldLink RX0 63 "ParallelUndo$Attempt" "eventCount" "I", Cond.fieldLink RX0 18 "ParallelUndo$Attempt" "register" "[J", Cond.methodLink RX0 66 yJ7_fill_d0a16, Cond.static yJ7_fill_d0a16, Cond.code yJ7_fill_d0a16 cJ7_fill_d0a16 5 none, Cond.methodLink RX1 43 yX0_isOver, Cond.instanceMethod yX0_isOver, Cond.selects RX0 yX0_isOver yX0_isOver, Cond.code yX0_isOver cX0_isOver 2 (some .boolean), Cond.fieldLink RX0 34 "ParallelUndo$Attempt" "self" "I", Cond.methodLink RX0 72 yX2_hasAct, Cond.instanceMethod yX2_hasAct, Cond.selects RX2 yX2_hasAct yX2_hasAct, Cond.initialized RX2, Cond.code yX2_hasAct cX2_hasAct 3 (some .boolean), Cond.fieldLink RX2 28 "ParallelUndo$Block" "calls" "I", Cond.fieldLink RX2 9 "ParallelUndo$Block" "acts" "[I", Cond.methodLink RX1 47 yX0_doNext, Cond.instanceMethod yX0_doNext]
def wsX7_inOrder_r4 : List Cond := [Cond.selects RX0 yX0_doNext yX0_doNext, Cond.code yX0_doNext cX0_doNext 10 (some .int), Cond.fieldLink RX0 88 "ParallelUndo$Block" "kind" "[I", Cond.fieldLink RX0 91 "ParallelUndo$Block" "first" "[I", Cond.fieldLink RX0 94 "ParallelUndo$Block" "second" "[I", Cond.fieldLink RX0 97 "ParallelUndo$Block" "value" "[J", Cond.methodLink RX0 84 yX0_isOver, Cond.methodLink RX0 102 yX0_leafAt, Cond.instanceMethod yX0_leafAt, Cond.selects RX0 yX0_leafAt yX0_leafAt, Cond.code yX0_leafAt cX0_leafAt 4 (some .int), Cond.constantLong RX0 114 (31), Cond.methodLink RX0 106 yX0_read, Cond.instanceMethod yX0_read, Cond.selects RX0 yX0_read yX0_read, Cond.code yX0_read cX0_read 5 (some .int), Cond.fieldLink RX0 9 "ParallelUndo$Attempt" "written" "[J", Cond.fieldLink RX0 21 "ParallelUndo$Attempt" "keptValue" "[J", Cond.methodLink RX0 116 yX0_hasWritten, Cond.instanceMethod yX0_hasWritten, Cond.selects RX0 yX0_hasWritten yX0_hasWritten, Cond.code yX0_hasWritten cX0_hasWritten 2 (some .boolean), Cond.methodLink RX0 120 yX5_writerBelow, Cond.instanceMethod yX5_writerBelow]
def wsX7_inOrder_r5 : List Cond := [Cond.selects RX5 yX5_writerBelow yX5_writerBelow, Cond.code yX5_writerBelow cX5_writerBelow 4 (some .int), Cond.methodLink RX0 126 yX5_isPerhaps, Cond.instanceMethod yX5_isPerhaps, Cond.selects RX5 yX5_isPerhaps yX5_isPerhaps, Cond.code yX5_isPerhaps cX5_isPerhaps 3 (some .boolean), Cond.methodLink RX0 129 yX5_numberOf, Cond.instanceMethod yX5_numberOf, Cond.selects RX5 yX5_numberOf yX5_numberOf, Cond.code yX5_numberOf cX5_numberOf 3 (some .int), Cond.fieldLink RX5 19 "ParallelUndo$Table" "number" "[I", Cond.methodLink RX0 132 yX5_valueOf, Cond.instanceMethod yX5_valueOf, Cond.selects RX5 yX5_valueOf yX5_valueOf, Cond.code yX5_valueOf cX5_valueOf 3 (some .long), Cond.fieldLink RX5 22 "ParallelUndo$Table" "value" "[J", Cond.methodLink RX0 136 yX0_keep, Cond.instanceMethod yX0_keep, Cond.selects RX0 yX0_keep yX0_keep, Cond.code yX0_keep cX0_keep 6 none, Cond.fieldLink RX0 24 "ParallelUndo$Attempt" "keptLeaf" "[I", Cond.fieldLink RX0 28 "ParallelUndo$Attempt" "keptWriter" "[I", Cond.fieldLink RX0 31 "ParallelUndo$Attempt" "keptNumber" "[I", Cond.methodLink RX0 110 yX0_perform]
def wsX7_inOrder_r6 : List Cond := [Cond.instanceMethod yX0_perform, Cond.selects RX0 yX0_perform yX0_perform, Cond.code yX0_perform cX0_perform 6 none, Cond.methodLink RX0 139 yX0_write, Cond.instanceMethod yX0_write, Cond.selects RX0 yX0_write yX0_write, Cond.code yX0_write cX0_write 4 none, Cond.methodLink RX0 143 yX0_raise, Cond.instanceMethod yX0_raise, Cond.selects RX0 yX0_raise yX0_raise, Cond.code yX0_raise cX0_raise 3 none, Cond.fieldLink RX0 15 "ParallelUndo$Attempt" "eventValue" "[J", Cond.methodLink RX0 147 yX0_fail, Cond.instanceMethod yX0_fail, Cond.selects RX0 yX0_fail yX0_fail, Cond.code yX0_fail cX0_fail 1 none, Cond.methodLink RX1 51 yX5_publish, Cond.instanceMethod yX5_publish, Cond.selects RX5 yX5_publish yX5_publish, Cond.code yX5_publish cX5_publish 6 (some .boolean), Cond.fieldLink RX5 45 "ParallelUndo$Attempt" "self" "I", Cond.fieldLink RX5 55 "ParallelUndo$Attempt" "written" "[J", Cond.methodLink RX5 51 yX0_hasWritten, Cond.methodLink RX7 74 yX5_valueAfter]
def wsX7_inOrder_r7 : List Cond := [Cond.instanceMethod yX5_valueAfter, Cond.selects RX5 yX5_valueAfter yX5_valueAfter, Cond.code yX5_valueAfter cX5_valueAfter 2 (some .long), Cond.methodLink RX5 37 yX5_writerBelow, Cond.methodLink RX5 41 yX5_valueOf]
def wsX7_inOrder : List Cond := .code yX7_inOrder cX7_inOrder 2 (some .long) :: ((wsX7_inOrder_r1 ++ (wsX7_inOrder_r2 ++ (wsX7_inOrder_r3 ++ (wsX7_inOrder_r4 ++ (wsX7_inOrder_r5 ++ (wsX7_inOrder_r6 ++ wsX7_inOrder_r7)))))) ++ wsX70 ++ wsX10 ++ wsX20 ++ wsX50 ++ wsX00)
def wsX7_events : List Cond := .code yX7_events cX7_events 1 (some .int) :: ([.fieldLink RX7 23 "ParallelUndo" "latest" "LParallelUndo$Workers;", .fieldLink RX7 67 "ParallelUndo$Workers" "bench" "LParallelUndo$Bench;", .methodLink RX7 90 yX1_countEvents, .instanceMethod yX1_countEvents, .selects RX1 yX1_countEvents yX1_countEvents, .initialized RX1, .code yX1_countEvents cX1_countEvents 3 (some .int), .fieldLink RX1 33 "ParallelUndo$Bench" "calls" "I", .fieldLink RX1 20 "ParallelUndo$Bench" "attempts" "[LParallelUndo$Attempt;", .fieldLink RX1 78 "ParallelUndo$Attempt" "eventCount" "I"] ++ wsX70 ++ wsX60 ++ wsX10 ++ wsX00)
def wsX7_event : List Cond := .code yX7_event cX7_event 3 (some .long) :: ([.fieldLink RX7 23 "ParallelUndo" "latest" "LParallelUndo$Workers;", .fieldLink RX7 67 "ParallelUndo$Workers" "bench" "LParallelUndo$Bench;", .methodLink RX7 93 yX1_tellEvent, .instanceMethod yX1_tellEvent, .selects RX1 yX1_tellEvent yX1_tellEvent, .initialized RX1, .code yX1_tellEvent cX1_tellEvent 6 (some .long), .fieldLink RX1 33 "ParallelUndo$Bench" "calls" "I", .fieldLink RX1 20 "ParallelUndo$Bench" "attempts" "[LParallelUndo$Attempt;", .fieldLink RX1 78 "ParallelUndo$Attempt" "eventCount" "I", .fieldLink RX1 81 "ParallelUndo$Attempt" "eventValue" "[J"] ++ wsX70 ++ wsX60 ++ wsX10 ++ wsX00)
def wsX7_of_r1 : List Cond := [Cond.fieldLink RX7 23 "ParallelUndo" "latest" "LParallelUndo$Workers;", Cond.fieldLink RX7 67 "ParallelUndo$Workers" "bench" "LParallelUndo$Bench;", Cond.methodLink RX7 97 yX1_tellCall, Cond.instanceMethod yX1_tellCall, Cond.selects RX1 yX1_tellCall yX1_tellCall, Cond.initialized RX1, Cond.code yX1_tellCall cX1_tellCall 4 (some .int), Cond.fieldLink RX1 33 "ParallelUndo$Bench" "calls" "I", Cond.fieldLink RX1 20 "ParallelUndo$Bench" "attempts" "[LParallelUndo$Attempt;", Cond.fieldLink RX1 85 "ParallelUndo$Attempt" "began" "I", Cond.fieldLink RX1 88 "ParallelUndo$Attempt" "done" "I", Cond.fieldLink RX1 91 "ParallelUndo$Attempt" "failed" "Z", Cond.fieldLink RX1 95 "ParallelUndo$Attempt" "kept" "I", Cond.fieldLink RX1 55 "ParallelUndo$Attempt" "group" "I", Cond.methodLink RX1 98 yX0_countWritten, Cond.instanceMethod yX0_countWritten, Cond.selects RX0 yX0_countWritten yX0_countWritten, Cond.initialized RX0, Cond.code yX0_countWritten cX0_countWritten 1 (some .int), Cond.fieldLink RX0 60 "ParallelUndo$Attempt" "writtenMask" "I", Cond.methodLink RX0 78 yJ6_bitCount_0f7a4, Cond.static yJ6_bitCount_0f7a4, Cond.initialized RJ6, Cond.code yJ6_bitCount_0f7a4 cJ6_bitCount_0f7a4 1 (some .int)]
def wsX7_of_r2 : List Cond := [Cond.constant RJ6 265 (1431655765), Cond.constant RJ6 266 (858993459), Cond.constant RJ6 267 (252645135)]
def wsX7_of : List Cond := .code yX7_of cX7_of 3 (some .int) :: ((wsX7_of_r1 ++ wsX7_of_r2) ++ wsX70 ++ wsX60 ++ wsX10 ++ wsX00)
def wsX7_conflicts : List Cond := .code yX7_conflicts cX7_conflicts 1 (some .int) :: ([.fieldLink RX7 23 "ParallelUndo" "latest" "LParallelUndo$Workers;", .fieldLink RX7 101 "ParallelUndo$Workers" "conflicts" "LParallelUndo$Conflicts;", .fieldLink RX7 105 "ParallelUndo$Conflicts" "count" "I"] ++ wsX70 ++ wsX60 ++ wsX30)
def wsX7_conflict : List Cond := .code yX7_conflict cX7_conflict 3 (some .int) :: ([.fieldLink RX7 23 "ParallelUndo" "latest" "LParallelUndo$Workers;", .fieldLink RX7 101 "ParallelUndo$Workers" "conflicts" "LParallelUndo$Conflicts;", .methodLink RX7 110 yX3_tell, .instanceMethod yX3_tell, .selects RX3 yX3_tell yX3_tell, .initialized RX3, .code yX3_tell cX3_tell 3 (some .int), .fieldLink RX3 16 "ParallelUndo$Conflicts" "count" "I", .fieldLink RX3 9 "ParallelUndo$Conflicts" "hit" "[I", .fieldLink RX3 13 "ParallelUndo$Conflicts" "by" "[I"] ++ wsX70 ++ wsX60 ++ wsX30)
def wsX7_told_r1 : List Cond := [Cond.fieldLink RX7 23 "ParallelUndo" "latest" "LParallelUndo$Workers;", Cond.methodLink RX7 113 yX6_tell, Cond.instanceMethod yX6_tell, Cond.selects RX6 yX6_tell yX6_tell, Cond.initialized RX6, Cond.code yX6_tell cX6_tell 2 (some .int), Cond.fieldLink RX6 52 "ParallelUndo$Workers" "turns" "I", Cond.fieldLink RX6 64 "ParallelUndo$Workers" "fell" "Z", Cond.fieldLink RX6 55 "ParallelUndo$Workers" "looks" "I", Cond.fieldLink RX6 58 "ParallelUndo$Workers" "undone" "I", Cond.fieldLink RX6 61 "ParallelUndo$Workers" "givenUp" "I", Cond.fieldLink RX6 12 "ParallelUndo$Workers" "bench" "LParallelUndo$Bench;", Cond.fieldLink RX6 103 "ParallelUndo$Bench" "calls" "I", Cond.methodLink RX6 182 yX1_countActs, Cond.instanceMethod yX1_countActs, Cond.selects RX1 yX1_countActs yX1_countActs, Cond.initialized RX1, Cond.code yX1_countActs cX1_countActs 3 (some .int), Cond.fieldLink RX1 33 "ParallelUndo$Bench" "calls" "I", Cond.fieldLink RX1 20 "ParallelUndo$Bench" "attempts" "[LParallelUndo$Attempt;", Cond.fieldLink RX1 75 "ParallelUndo$Attempt" "doneInAll" "I", Cond.methodLink RX6 186 yX1_countGroups, Cond.instanceMethod yX1_countGroups, Cond.selects RX1 yX1_countGroups yX1_countGroups]
def wsX7_told_r2 : List Cond := [Cond.code yX1_countGroups cX1_countGroups 3 (some .int), Cond.fieldLink RX1 55 "ParallelUndo$Attempt" "group" "I"]
def wsX7_told : List Cond := .code yX7_told cX7_told 2 (some .int) :: ((wsX7_told_r1 ++ wsX7_told_r2) ++ wsX70 ++ wsX60 ++ wsX10 ++ wsX00)
def wsX8_init_r1 : List Cond := [Cond.methodLink RX8 1 objectInit, Cond.instanceMethod objectInit, Cond.code objectInit ⟨#[0xb1]⟩ 1 none, Cond.arrayClass .long, Cond.fieldLink RX8 7 "ParallelUndoModel" "leaf" "[J", Cond.arrayClass .int, Cond.fieldLink RX8 13 "ParallelUndoModel" "acts" "[I", Cond.fieldLink RX8 17 "ParallelUndoModel" "kind" "[I", Cond.fieldLink RX8 20 "ParallelUndoModel" "left" "[I", Cond.fieldLink RX8 23 "ParallelUndoModel" "right" "[I", Cond.fieldLink RX8 26 "ParallelUndoModel" "number" "[J", Cond.fieldLink RX8 29 "ParallelUndoModel" "place" "[I", Cond.fieldLink RX8 32 "ParallelUndoModel" "register" "[J", Cond.arrayClass .boolean, Cond.fieldLink RX8 35 "ParallelUndoModel" "failed" "[Z", Cond.fieldLink RX8 39 "ParallelUndoModel" "wrote" "[Z", Cond.fieldLink RX8 42 "ParallelUndoModel" "written" "[J", Cond.fieldLink RX8 45 "ParallelUndoModel" "kept" "[I", Cond.fieldLink RX8 48 "ParallelUndoModel" "keptLeaf" "[I", Cond.fieldLink RX8 51 "ParallelUndoModel" "keptCall" "[I", Cond.fieldLink RX8 54 "ParallelUndoModel" "keptRun" "[I", Cond.fieldLink RX8 57 "ParallelUndoModel" "keptValue" "[J", Cond.fieldLink RX8 60 "ParallelUndoModel" "eventCount" "[I", Cond.fieldLink RX8 63 "ParallelUndoModel" "eventValue" "[J"]
def wsX8_init_r2 : List Cond := [Cond.fieldLink RX8 66 "ParallelUndoModel" "began" "[I", Cond.fieldLink RX8 69 "ParallelUndoModel" "did" "[I", Cond.fieldLink RX8 72 "ParallelUndoModel" "has" "[Z", Cond.fieldLink RX8 75 "ParallelUndoModel" "perhaps" "[Z", Cond.fieldLink RX8 78 "ParallelUndoModel" "value" "[J", Cond.fieldLink RX8 81 "ParallelUndoModel" "ofRun" "[I", Cond.fieldLink RX8 84 "ParallelUndoModel" "how" "[I", Cond.fieldLink RX8 87 "ParallelUndoModel" "runOf" "[I", Cond.fieldLink RX8 90 "ParallelUndoModel" "waitsFor" "[I", Cond.fieldLink RX8 93 "ParallelUndoModel" "task" "[I", Cond.fieldLink RX8 96 "ParallelUndoModel" "taskCall" "[I", Cond.fieldLink RX8 99 "ParallelUndoModel" "taskRun" "[I", Cond.fieldLink RX8 102 "ParallelUndoModel" "group" "[I", Cond.fieldLink RX8 105 "ParallelUndoModel" "conflictCall" "[I", Cond.fieldLink RX8 108 "ParallelUndoModel" "conflictOther" "[I", Cond.fieldLink RX8 111 "ParallelUndoModel" "allEvents" "[J", Cond.fieldLink RX8 114 "ParallelUndoModel" "allEventCalls" "[I", Cond.fieldLink RX8 117 "ParallelUndoModel" "lastFailed" "[Z", Cond.fieldLink RX8 120 "ParallelUndoModel" "lastSaw" "[I", Cond.fieldLink RX8 123 "ParallelUndoModel" "lastWrote" "[I", Cond.fieldLink RX8 126 "ParallelUndoModel" "lastDid" "[I", Cond.fieldLink RX8 129 "ParallelUndoModel" "lastBegan" "[I", Cond.fieldLink RX8 132 "ParallelUndoModel" "plain" "[J", Cond.fieldLink RX8 135 "ParallelUndoModel" "plainOwn" "[J"]
def wsX8_init_r3 : List Cond := [Cond.fieldLink RX8 138 "ParallelUndoModel" "plainRegister" "[J", Cond.fieldLink RX8 141 "ParallelUndoModel" "bound" "I"]
def wsX8_init : List Cond := .code yX8_init cX8_init 1 none :: ((wsX8_init_r1 ++ (wsX8_init_r2 ++ wsX8_init_r3)) ++ wsX80)
def wsX8_call : List Cond := .code yX8_call cX8_call 1 (some .int) :: ([.fieldLink RX8 145 "ParallelUndoModel" "calls" "I", .fieldLink RX8 13 "ParallelUndoModel" "acts" "[I"] ++ wsX80)
def wsX8_act : List Cond := .code yX8_act cX8_act 10 (some .int) :: ([.fieldLink RX8 145 "ParallelUndoModel" "calls" "I", .fieldLink RX8 13 "ParallelUndoModel" "acts" "[I", .constantLong RX8 148 (12), .fieldLink RX8 17 "ParallelUndoModel" "kind" "[I", .fieldLink RX8 20 "ParallelUndoModel" "left" "[I", .fieldLink RX8 23 "ParallelUndoModel" "right" "[I", .fieldLink RX8 26 "ParallelUndoModel" "number" "[J"] ++ wsX80)
def wsX8_clear : List Cond := .code yX8_clear cX8_clear 2 (some .int) :: ([.fieldLink RX8 145 "ParallelUndoModel" "calls" "I"] ++ wsX80)
def wsX8_leaf : List Cond := .code yX8_leaf cX8_leaf 4 (some .boolean) :: ([.fieldLink RX8 7 "ParallelUndoModel" "leaf" "[J"] ++ wsX80)
def wsX8_bound : List Cond := .code yX8_bound cX8_bound 2 (some .boolean) :: ([.fieldLink RX8 141 "ParallelUndoModel" "bound" "I"] ++ wsX80)
def wsX8_begin : List Cond := .code yX8_begin cX8_begin 3 none :: ([.fieldLink RX8 66 "ParallelUndoModel" "began" "[I", .fieldLink RX8 29 "ParallelUndoModel" "place" "[I", .fieldLink RX8 69 "ParallelUndoModel" "did" "[I", .fieldLink RX8 35 "ParallelUndoModel" "failed" "[Z", .fieldLink RX8 45 "ParallelUndoModel" "kept" "[I", .fieldLink RX8 60 "ParallelUndoModel" "eventCount" "[I", .fieldLink RX8 32 "ParallelUndoModel" "register" "[J", .fieldLink RX8 39 "ParallelUndoModel" "wrote" "[Z"] ++ wsX80)
def wsX8_see : List Cond := .code yX8_see cX8_see 5 none :: ([.fieldLink RX8 150 "ParallelUndoModel" "seenCall" "I", .fieldLink RX8 153 "ParallelUndoModel" "seenRun" "I", .fieldLink RX8 156 "ParallelUndoModel" "seenPerhaps" "Z", .fieldLink RX8 7 "ParallelUndoModel" "leaf" "[J", .fieldLink RX8 160 "ParallelUndoModel" "seenValue" "J", .fieldLink RX8 72 "ParallelUndoModel" "has" "[Z", .fieldLink RX8 81 "ParallelUndoModel" "ofRun" "[I", .fieldLink RX8 75 "ParallelUndoModel" "perhaps" "[Z", .fieldLink RX8 78 "ParallelUndoModel" "value" "[J"] ++ wsX80)
def wsX8_leafOf : List Cond := .code yX8_leafOf cX8_leafOf 3 (some .int) :: ([.constantLong RX8 164 (32)])
def wsX8_doAct_r1 : List Cond := [Cond.fieldLink RX8 29 "ParallelUndoModel" "place" "[I", Cond.fieldLink RX8 20 "ParallelUndoModel" "left" "[I", Cond.fieldLink RX8 23 "ParallelUndoModel" "right" "[I", Cond.fieldLink RX8 17 "ParallelUndoModel" "kind" "[I", Cond.fieldLink RX8 26 "ParallelUndoModel" "number" "[J", Cond.fieldLink RX8 32 "ParallelUndoModel" "register" "[J", Cond.fieldLink RX8 39 "ParallelUndoModel" "wrote" "[Z", Cond.fieldLink RX8 42 "ParallelUndoModel" "written" "[J", Cond.fieldLink RX8 45 "ParallelUndoModel" "kept" "[I", Cond.fieldLink RX8 48 "ParallelUndoModel" "keptLeaf" "[I", Cond.fieldLink RX8 156 "ParallelUndoModel" "seenPerhaps" "Z", Cond.fieldLink RX8 150 "ParallelUndoModel" "seenCall" "I", Cond.fieldLink RX8 51 "ParallelUndoModel" "keptCall" "[I", Cond.fieldLink RX8 54 "ParallelUndoModel" "keptRun" "[I", Cond.fieldLink RX8 153 "ParallelUndoModel" "seenRun" "I", Cond.fieldLink RX8 57 "ParallelUndoModel" "keptValue" "[J", Cond.fieldLink RX8 160 "ParallelUndoModel" "seenValue" "J", Cond.fieldLink RX8 63 "ParallelUndoModel" "eventValue" "[J", Cond.fieldLink RX8 60 "ParallelUndoModel" "eventCount" "[I", Cond.fieldLink RX8 35 "ParallelUndoModel" "failed" "[Z", Cond.fieldLink RX8 69 "ParallelUndoModel" "did" "[I", Cond.fieldLink RX8 174 "ParallelUndoModel" "allActs" "I", Cond.methodLink RX8 166 yX8_leafOf, Cond.static yX8_leafOf]
def wsX8_doAct_r2 : List Cond := [Cond.initialized RX8, Cond.code yX8_leafOf cX8_leafOf 3 (some .int), Cond.constantLong RX8 164 (32), Cond.methodLink RX8 170 yX8_see, Cond.instanceMethod yX8_see, Cond.selects RX8 yX8_see yX8_see, Cond.code yX8_see cX8_see 5 none, Cond.fieldLink RX8 7 "ParallelUndoModel" "leaf" "[J", Cond.fieldLink RX8 72 "ParallelUndoModel" "has" "[Z", Cond.fieldLink RX8 81 "ParallelUndoModel" "ofRun" "[I", Cond.fieldLink RX8 75 "ParallelUndoModel" "perhaps" "[Z", Cond.fieldLink RX8 78 "ParallelUndoModel" "value" "[J"]
def wsX8_doAct : List Cond := .code yX8_doAct cX8_doAct 8 (some .int) :: ((wsX8_doAct_r1 ++ wsX8_doAct_r2) ++ wsX80)
def wsX8_isOver : List Cond := .code yX8_isOver cX8_isOver 2 (some .boolean) :: ([.fieldLink RX8 35 "ParallelUndoModel" "failed" "[Z", .fieldLink RX8 29 "ParallelUndoModel" "place" "[I", .fieldLink RX8 13 "ParallelUndoModel" "acts" "[I"] ++ wsX80)
def wsX8_conflict0 : List Cond := .code yX8_conflict0 cX8_conflict0 3 none :: ([.fieldLink RX8 177 "ParallelUndoModel" "conflictCount" "I", .fieldLink RX8 105 "ParallelUndoModel" "conflictCall" "[I", .fieldLink RX8 108 "ParallelUndoModel" "conflictOther" "[I"] ++ wsX80)
def wsX8_isDone : List Cond := .code yX8_isDone cX8_isDone 4 (some .boolean) :: ([.fieldLink RX8 93 "ParallelUndoModel" "task" "[I", .fieldLink RX8 198 "ParallelUndoModel" "nextRun" "I", .fieldLink RX8 145 "ParallelUndoModel" "calls" "I", .fieldLink RX8 201 "ParallelUndoModel" "nextLook" "I"] ++ wsX80)
def wsX8_toLook : List Cond := .code yX8_toLook cX8_toLook 3 none :: ([.fieldLink RX8 93 "ParallelUndoModel" "task" "[I", .fieldLink RX8 96 "ParallelUndoModel" "taskCall" "[I", .fieldLink RX8 99 "ParallelUndoModel" "taskRun" "[I", .fieldLink RX8 87 "ParallelUndoModel" "runOf" "[I"] ++ wsX80)
def wsX8_ends : List Cond := .code yX8_ends cX8_ends 6 none :: ([.fieldLink RX8 39 "ParallelUndoModel" "wrote" "[Z", .fieldLink RX8 35 "ParallelUndoModel" "failed" "[Z", .fieldLink RX8 72 "ParallelUndoModel" "has" "[Z", .fieldLink RX8 75 "ParallelUndoModel" "perhaps" "[Z", .fieldLink RX8 78 "ParallelUndoModel" "value" "[J", .fieldLink RX8 42 "ParallelUndoModel" "written" "[J", .fieldLink RX8 81 "ParallelUndoModel" "ofRun" "[I", .fieldLink RX8 87 "ParallelUndoModel" "runOf" "[I", .fieldLink RX8 84 "ParallelUndoModel" "how" "[I", .fieldLink RX8 145 "ParallelUndoModel" "calls" "I", .fieldLink RX8 90 "ParallelUndoModel" "waitsFor" "[I", .fieldLink RX8 198 "ParallelUndoModel" "nextRun" "I", .fieldLink RX8 201 "ParallelUndoModel" "nextLook" "I", .methodLink RX8 225 yX8_toLook, .instanceMethod yX8_toLook, .selects RX8 yX8_toLook yX8_toLook, .initialized RX8, .code yX8_toLook cX8_toLook 3 none, .fieldLink RX8 93 "ParallelUndoModel" "task" "[I", .fieldLink RX8 96 "ParallelUndoModel" "taskCall" "[I", .fieldLink RX8 99 "ParallelUndoModel" "taskRun" "[I"] ++ wsX80)
def wsX8_runStep_r1 : List Cond := [Cond.fieldLink RX8 96 "ParallelUndoModel" "taskCall" "[I", Cond.fieldLink RX8 84 "ParallelUndoModel" "how" "[I", Cond.fieldLink RX8 90 "ParallelUndoModel" "waitsFor" "[I", Cond.fieldLink RX8 93 "ParallelUndoModel" "task" "[I", Cond.fieldLink RX8 195 "ParallelUndoModel" "givenUp" "I", Cond.methodLink RX8 234 yX8_isOver, Cond.instanceMethod yX8_isOver, Cond.selects RX8 yX8_isOver yX8_isOver, Cond.initialized RX8, Cond.code yX8_isOver cX8_isOver 2 (some .boolean), Cond.fieldLink RX8 35 "ParallelUndoModel" "failed" "[Z", Cond.fieldLink RX8 29 "ParallelUndoModel" "place" "[I", Cond.fieldLink RX8 13 "ParallelUndoModel" "acts" "[I", Cond.methodLink RX8 237 yX8_doAct, Cond.instanceMethod yX8_doAct, Cond.selects RX8 yX8_doAct yX8_doAct, Cond.code yX8_doAct cX8_doAct 8 (some .int), Cond.fieldLink RX8 20 "ParallelUndoModel" "left" "[I", Cond.fieldLink RX8 23 "ParallelUndoModel" "right" "[I", Cond.fieldLink RX8 17 "ParallelUndoModel" "kind" "[I", Cond.fieldLink RX8 26 "ParallelUndoModel" "number" "[J", Cond.fieldLink RX8 32 "ParallelUndoModel" "register" "[J", Cond.fieldLink RX8 39 "ParallelUndoModel" "wrote" "[Z", Cond.fieldLink RX8 42 "ParallelUndoModel" "written" "[J"]
def wsX8_runStep_r2 : List Cond := [Cond.fieldLink RX8 45 "ParallelUndoModel" "kept" "[I", Cond.fieldLink RX8 48 "ParallelUndoModel" "keptLeaf" "[I", Cond.fieldLink RX8 156 "ParallelUndoModel" "seenPerhaps" "Z", Cond.fieldLink RX8 150 "ParallelUndoModel" "seenCall" "I", Cond.fieldLink RX8 51 "ParallelUndoModel" "keptCall" "[I", Cond.fieldLink RX8 54 "ParallelUndoModel" "keptRun" "[I", Cond.fieldLink RX8 153 "ParallelUndoModel" "seenRun" "I", Cond.fieldLink RX8 57 "ParallelUndoModel" "keptValue" "[J", Cond.fieldLink RX8 160 "ParallelUndoModel" "seenValue" "J", Cond.fieldLink RX8 63 "ParallelUndoModel" "eventValue" "[J", Cond.fieldLink RX8 60 "ParallelUndoModel" "eventCount" "[I", Cond.fieldLink RX8 69 "ParallelUndoModel" "did" "[I", Cond.fieldLink RX8 174 "ParallelUndoModel" "allActs" "I", Cond.methodLink RX8 166 yX8_leafOf, Cond.static yX8_leafOf, Cond.code yX8_leafOf cX8_leafOf 3 (some .int), Cond.constantLong RX8 164 (32), Cond.methodLink RX8 170 yX8_see, Cond.instanceMethod yX8_see, Cond.selects RX8 yX8_see yX8_see, Cond.code yX8_see cX8_see 5 none, Cond.fieldLink RX8 7 "ParallelUndoModel" "leaf" "[J", Cond.fieldLink RX8 72 "ParallelUndoModel" "has" "[Z", Cond.fieldLink RX8 81 "ParallelUndoModel" "ofRun" "[I"]
def wsX8_runStep_r3 : List Cond := [Cond.fieldLink RX8 75 "ParallelUndoModel" "perhaps" "[Z", Cond.fieldLink RX8 78 "ParallelUndoModel" "value" "[J", Cond.methodLink RX8 241 yX8_conflict0, Cond.instanceMethod yX8_conflict0, Cond.selects RX8 yX8_conflict0 yX8_conflict0, Cond.code yX8_conflict0 cX8_conflict0 3 none, Cond.fieldLink RX8 177 "ParallelUndoModel" "conflictCount" "I", Cond.fieldLink RX8 105 "ParallelUndoModel" "conflictCall" "[I", Cond.fieldLink RX8 108 "ParallelUndoModel" "conflictOther" "[I", Cond.methodLink RX8 244 yX8_ends, Cond.instanceMethod yX8_ends, Cond.selects RX8 yX8_ends yX8_ends, Cond.code yX8_ends cX8_ends 6 none, Cond.fieldLink RX8 87 "ParallelUndoModel" "runOf" "[I", Cond.fieldLink RX8 145 "ParallelUndoModel" "calls" "I", Cond.fieldLink RX8 198 "ParallelUndoModel" "nextRun" "I", Cond.fieldLink RX8 201 "ParallelUndoModel" "nextLook" "I", Cond.methodLink RX8 225 yX8_toLook, Cond.instanceMethod yX8_toLook, Cond.selects RX8 yX8_toLook yX8_toLook, Cond.code yX8_toLook cX8_toLook 3 none, Cond.fieldLink RX8 99 "ParallelUndoModel" "taskRun" "[I"]
def wsX8_runStep : List Cond := .code yX8_runStep cX8_runStep 4 none :: ((wsX8_runStep_r1 ++ (wsX8_runStep_r2 ++ wsX8_runStep_r3)) ++ wsX80)
def wsX8_toRun : List Cond := .code yX8_toRun cX8_toRun 3 none :: ([.fieldLink RX8 84 "ParallelUndoModel" "how" "[I", .fieldLink RX8 93 "ParallelUndoModel" "task" "[I", .fieldLink RX8 96 "ParallelUndoModel" "taskCall" "[I", .methodLink RX8 231 yX8_begin, .instanceMethod yX8_begin, .selects RX8 yX8_begin yX8_begin, .initialized RX8, .code yX8_begin cX8_begin 3 none, .fieldLink RX8 66 "ParallelUndoModel" "began" "[I", .fieldLink RX8 29 "ParallelUndoModel" "place" "[I", .fieldLink RX8 69 "ParallelUndoModel" "did" "[I", .fieldLink RX8 35 "ParallelUndoModel" "failed" "[Z", .fieldLink RX8 45 "ParallelUndoModel" "kept" "[I", .fieldLink RX8 60 "ParallelUndoModel" "eventCount" "[I", .fieldLink RX8 32 "ParallelUndoModel" "register" "[J", .fieldLink RX8 39 "ParallelUndoModel" "wrote" "[Z"] ++ wsX80)
def wsX8_lookStep_r1 : List Cond := [Cond.fieldLink RX8 96 "ParallelUndoModel" "taskCall" "[I", Cond.fieldLink RX8 93 "ParallelUndoModel" "task" "[I", Cond.fieldLink RX8 189 "ParallelUndoModel" "looks" "I", Cond.fieldLink RX8 84 "ParallelUndoModel" "how" "[I", Cond.fieldLink RX8 87 "ParallelUndoModel" "runOf" "[I", Cond.fieldLink RX8 99 "ParallelUndoModel" "taskRun" "[I", Cond.fieldLink RX8 45 "ParallelUndoModel" "kept" "[I", Cond.fieldLink RX8 48 "ParallelUndoModel" "keptLeaf" "[I", Cond.fieldLink RX8 156 "ParallelUndoModel" "seenPerhaps" "Z", Cond.fieldLink RX8 150 "ParallelUndoModel" "seenCall" "I", Cond.fieldLink RX8 51 "ParallelUndoModel" "keptCall" "[I", Cond.fieldLink RX8 153 "ParallelUndoModel" "seenRun" "I", Cond.fieldLink RX8 54 "ParallelUndoModel" "keptRun" "[I", Cond.fieldLink RX8 192 "ParallelUndoModel" "undone" "I", Cond.fieldLink RX8 75 "ParallelUndoModel" "perhaps" "[Z", Cond.fieldLink RX8 72 "ParallelUndoModel" "has" "[Z", Cond.fieldLink RX8 141 "ParallelUndoModel" "bound" "I", Cond.fieldLink RX8 186 "ParallelUndoModel" "fell" "Z", Cond.fieldLink RX8 201 "ParallelUndoModel" "nextLook" "I", Cond.fieldLink RX8 198 "ParallelUndoModel" "nextRun" "I", Cond.methodLink RX8 170 yX8_see, Cond.instanceMethod yX8_see, Cond.selects RX8 yX8_see yX8_see, Cond.initialized RX8]
def wsX8_lookStep_r2 : List Cond := [Cond.code yX8_see cX8_see 5 none, Cond.fieldLink RX8 7 "ParallelUndoModel" "leaf" "[J", Cond.fieldLink RX8 160 "ParallelUndoModel" "seenValue" "J", Cond.fieldLink RX8 81 "ParallelUndoModel" "ofRun" "[I", Cond.fieldLink RX8 78 "ParallelUndoModel" "value" "[J", Cond.methodLink RX8 241 yX8_conflict0, Cond.instanceMethod yX8_conflict0, Cond.selects RX8 yX8_conflict0 yX8_conflict0, Cond.code yX8_conflict0 cX8_conflict0 3 none, Cond.fieldLink RX8 177 "ParallelUndoModel" "conflictCount" "I", Cond.fieldLink RX8 105 "ParallelUndoModel" "conflictCall" "[I", Cond.fieldLink RX8 108 "ParallelUndoModel" "conflictOther" "[I", Cond.methodLink RX8 228 yX8_toRun, Cond.instanceMethod yX8_toRun, Cond.selects RX8 yX8_toRun yX8_toRun, Cond.code yX8_toRun cX8_toRun 3 none, Cond.methodLink RX8 231 yX8_begin, Cond.instanceMethod yX8_begin, Cond.selects RX8 yX8_begin yX8_begin, Cond.code yX8_begin cX8_begin 3 none, Cond.fieldLink RX8 66 "ParallelUndoModel" "began" "[I", Cond.fieldLink RX8 29 "ParallelUndoModel" "place" "[I", Cond.fieldLink RX8 69 "ParallelUndoModel" "did" "[I", Cond.fieldLink RX8 35 "ParallelUndoModel" "failed" "[Z"]
def wsX8_lookStep_r3 : List Cond := [Cond.fieldLink RX8 60 "ParallelUndoModel" "eventCount" "[I", Cond.fieldLink RX8 32 "ParallelUndoModel" "register" "[J", Cond.fieldLink RX8 39 "ParallelUndoModel" "wrote" "[Z"]
def wsX8_lookStep : List Cond := .code yX8_lookStep cX8_lookStep 5 none :: ((wsX8_lookStep_r1 ++ (wsX8_lookStep_r2 ++ wsX8_lookStep_r3)) ++ wsX80)
def wsX8_step_r1 : List Cond := [Cond.fieldLink RX8 93 "ParallelUndoModel" "task" "[I", Cond.fieldLink RX8 201 "ParallelUndoModel" "nextLook" "I", Cond.fieldLink RX8 198 "ParallelUndoModel" "nextRun" "I", Cond.fieldLink RX8 84 "ParallelUndoModel" "how" "[I", Cond.fieldLink RX8 145 "ParallelUndoModel" "calls" "I", Cond.methodLink RX8 219 yX8_runStep, Cond.instanceMethod yX8_runStep, Cond.selects RX8 yX8_runStep yX8_runStep, Cond.initialized RX8, Cond.code yX8_runStep cX8_runStep 4 none, Cond.fieldLink RX8 96 "ParallelUndoModel" "taskCall" "[I", Cond.fieldLink RX8 90 "ParallelUndoModel" "waitsFor" "[I", Cond.fieldLink RX8 195 "ParallelUndoModel" "givenUp" "I", Cond.methodLink RX8 234 yX8_isOver, Cond.instanceMethod yX8_isOver, Cond.selects RX8 yX8_isOver yX8_isOver, Cond.code yX8_isOver cX8_isOver 2 (some .boolean), Cond.fieldLink RX8 35 "ParallelUndoModel" "failed" "[Z", Cond.fieldLink RX8 29 "ParallelUndoModel" "place" "[I", Cond.fieldLink RX8 13 "ParallelUndoModel" "acts" "[I", Cond.methodLink RX8 237 yX8_doAct, Cond.instanceMethod yX8_doAct, Cond.selects RX8 yX8_doAct yX8_doAct, Cond.code yX8_doAct cX8_doAct 8 (some .int)]
def wsX8_step_r2 : List Cond := [Cond.fieldLink RX8 20 "ParallelUndoModel" "left" "[I", Cond.fieldLink RX8 23 "ParallelUndoModel" "right" "[I", Cond.fieldLink RX8 17 "ParallelUndoModel" "kind" "[I", Cond.fieldLink RX8 26 "ParallelUndoModel" "number" "[J", Cond.fieldLink RX8 32 "ParallelUndoModel" "register" "[J", Cond.fieldLink RX8 39 "ParallelUndoModel" "wrote" "[Z", Cond.fieldLink RX8 42 "ParallelUndoModel" "written" "[J", Cond.fieldLink RX8 45 "ParallelUndoModel" "kept" "[I", Cond.fieldLink RX8 48 "ParallelUndoModel" "keptLeaf" "[I", Cond.fieldLink RX8 156 "ParallelUndoModel" "seenPerhaps" "Z", Cond.fieldLink RX8 150 "ParallelUndoModel" "seenCall" "I", Cond.fieldLink RX8 51 "ParallelUndoModel" "keptCall" "[I", Cond.fieldLink RX8 54 "ParallelUndoModel" "keptRun" "[I", Cond.fieldLink RX8 153 "ParallelUndoModel" "seenRun" "I", Cond.fieldLink RX8 57 "ParallelUndoModel" "keptValue" "[J", Cond.fieldLink RX8 160 "ParallelUndoModel" "seenValue" "J", Cond.fieldLink RX8 63 "ParallelUndoModel" "eventValue" "[J", Cond.fieldLink RX8 60 "ParallelUndoModel" "eventCount" "[I", Cond.fieldLink RX8 69 "ParallelUndoModel" "did" "[I", Cond.fieldLink RX8 174 "ParallelUndoModel" "allActs" "I", Cond.methodLink RX8 166 yX8_leafOf, Cond.static yX8_leafOf, Cond.code yX8_leafOf cX8_leafOf 3 (some .int), Cond.constantLong RX8 164 (32)]
def wsX8_step_r3 : List Cond := [Cond.methodLink RX8 170 yX8_see, Cond.instanceMethod yX8_see, Cond.selects RX8 yX8_see yX8_see, Cond.code yX8_see cX8_see 5 none, Cond.fieldLink RX8 7 "ParallelUndoModel" "leaf" "[J", Cond.fieldLink RX8 72 "ParallelUndoModel" "has" "[Z", Cond.fieldLink RX8 81 "ParallelUndoModel" "ofRun" "[I", Cond.fieldLink RX8 75 "ParallelUndoModel" "perhaps" "[Z", Cond.fieldLink RX8 78 "ParallelUndoModel" "value" "[J", Cond.methodLink RX8 241 yX8_conflict0, Cond.instanceMethod yX8_conflict0, Cond.selects RX8 yX8_conflict0 yX8_conflict0, Cond.code yX8_conflict0 cX8_conflict0 3 none, Cond.fieldLink RX8 177 "ParallelUndoModel" "conflictCount" "I", Cond.fieldLink RX8 105 "ParallelUndoModel" "conflictCall" "[I", Cond.fieldLink RX8 108 "ParallelUndoModel" "conflictOther" "[I", Cond.methodLink RX8 244 yX8_ends, Cond.instanceMethod yX8_ends, Cond.selects RX8 yX8_ends yX8_ends, Cond.code yX8_ends cX8_ends 6 none, Cond.fieldLink RX8 87 "ParallelUndoModel" "runOf" "[I", Cond.methodLink RX8 225 yX8_toLook, Cond.instanceMethod yX8_toLook, Cond.selects RX8 yX8_toLook yX8_toLook]
def wsX8_step_r4 : List Cond := [Cond.code yX8_toLook cX8_toLook 3 none, Cond.fieldLink RX8 99 "ParallelUndoModel" "taskRun" "[I", Cond.methodLink RX8 222 yX8_lookStep, Cond.instanceMethod yX8_lookStep, Cond.selects RX8 yX8_lookStep yX8_lookStep, Cond.code yX8_lookStep cX8_lookStep 5 none, Cond.fieldLink RX8 189 "ParallelUndoModel" "looks" "I", Cond.fieldLink RX8 192 "ParallelUndoModel" "undone" "I", Cond.fieldLink RX8 141 "ParallelUndoModel" "bound" "I", Cond.fieldLink RX8 186 "ParallelUndoModel" "fell" "Z", Cond.methodLink RX8 228 yX8_toRun, Cond.instanceMethod yX8_toRun, Cond.selects RX8 yX8_toRun yX8_toRun, Cond.code yX8_toRun cX8_toRun 3 none, Cond.methodLink RX8 231 yX8_begin, Cond.instanceMethod yX8_begin, Cond.selects RX8 yX8_begin yX8_begin, Cond.code yX8_begin cX8_begin 3 none, Cond.fieldLink RX8 66 "ParallelUndoModel" "began" "[I"]
def wsX8_step : List Cond := .code yX8_step cX8_step 3 none :: ((wsX8_step_r1 ++ (wsX8_step_r2 ++ (wsX8_step_r3 ++ wsX8_step_r4))) ++ wsX80)
def wsX8_allInOrder_r1 : List Cond := [Cond.fieldLink RX8 72 "ParallelUndoModel" "has" "[Z", Cond.fieldLink RX8 75 "ParallelUndoModel" "perhaps" "[Z", Cond.fieldLink RX8 145 "ParallelUndoModel" "calls" "I", Cond.fieldLink RX8 39 "ParallelUndoModel" "wrote" "[Z", Cond.fieldLink RX8 35 "ParallelUndoModel" "failed" "[Z", Cond.fieldLink RX8 78 "ParallelUndoModel" "value" "[J", Cond.fieldLink RX8 42 "ParallelUndoModel" "written" "[J", Cond.fieldLink RX8 81 "ParallelUndoModel" "ofRun" "[I", Cond.methodLink RX8 231 yX8_begin, Cond.instanceMethod yX8_begin, Cond.selects RX8 yX8_begin yX8_begin, Cond.initialized RX8, Cond.code yX8_begin cX8_begin 3 none, Cond.fieldLink RX8 66 "ParallelUndoModel" "began" "[I", Cond.fieldLink RX8 29 "ParallelUndoModel" "place" "[I", Cond.fieldLink RX8 69 "ParallelUndoModel" "did" "[I", Cond.fieldLink RX8 45 "ParallelUndoModel" "kept" "[I", Cond.fieldLink RX8 60 "ParallelUndoModel" "eventCount" "[I", Cond.fieldLink RX8 32 "ParallelUndoModel" "register" "[J", Cond.methodLink RX8 234 yX8_isOver, Cond.instanceMethod yX8_isOver, Cond.selects RX8 yX8_isOver yX8_isOver, Cond.code yX8_isOver cX8_isOver 2 (some .boolean), Cond.fieldLink RX8 13 "ParallelUndoModel" "acts" "[I"]
def wsX8_allInOrder_r2 : List Cond := [Cond.methodLink RX8 237 yX8_doAct, Cond.instanceMethod yX8_doAct, Cond.selects RX8 yX8_doAct yX8_doAct, Cond.code yX8_doAct cX8_doAct 8 (some .int), Cond.fieldLink RX8 20 "ParallelUndoModel" "left" "[I", Cond.fieldLink RX8 23 "ParallelUndoModel" "right" "[I", Cond.fieldLink RX8 17 "ParallelUndoModel" "kind" "[I", Cond.fieldLink RX8 26 "ParallelUndoModel" "number" "[J", Cond.fieldLink RX8 48 "ParallelUndoModel" "keptLeaf" "[I", Cond.fieldLink RX8 156 "ParallelUndoModel" "seenPerhaps" "Z", Cond.fieldLink RX8 150 "ParallelUndoModel" "seenCall" "I", Cond.fieldLink RX8 51 "ParallelUndoModel" "keptCall" "[I", Cond.fieldLink RX8 54 "ParallelUndoModel" "keptRun" "[I", Cond.fieldLink RX8 153 "ParallelUndoModel" "seenRun" "I", Cond.fieldLink RX8 57 "ParallelUndoModel" "keptValue" "[J", Cond.fieldLink RX8 160 "ParallelUndoModel" "seenValue" "J", Cond.fieldLink RX8 63 "ParallelUndoModel" "eventValue" "[J", Cond.fieldLink RX8 174 "ParallelUndoModel" "allActs" "I", Cond.methodLink RX8 166 yX8_leafOf, Cond.static yX8_leafOf, Cond.code yX8_leafOf cX8_leafOf 3 (some .int), Cond.constantLong RX8 164 (32), Cond.methodLink RX8 170 yX8_see, Cond.instanceMethod yX8_see]
def wsX8_allInOrder_r3 : List Cond := [Cond.selects RX8 yX8_see yX8_see, Cond.code yX8_see cX8_see 5 none, Cond.fieldLink RX8 7 "ParallelUndoModel" "leaf" "[J"]
def wsX8_allInOrder : List Cond := .code yX8_allInOrder cX8_allInOrder 4 none :: ((wsX8_allInOrder_r1 ++ (wsX8_allInOrder_r2 ++ wsX8_allInOrder_r3)) ++ wsX80)
def wsX8_touches : List Cond := .code yX8_touches cX8_touches 5 (some .boolean) :: ([.fieldLink RX8 39 "ParallelUndoModel" "wrote" "[Z", .fieldLink RX8 35 "ParallelUndoModel" "failed" "[Z", .fieldLink RX8 45 "ParallelUndoModel" "kept" "[I", .fieldLink RX8 48 "ParallelUndoModel" "keptLeaf" "[I"] ++ wsX80)
def wsX8_rootOf : List Cond := .code yX8_rootOf cX8_rootOf 3 (some .int) :: ([.fieldLink RX8 102 "ParallelUndoModel" "group" "[I"] ++ wsX80)
def wsX8_settle_r1 : List Cond := [Cond.fieldLink RX8 247 "ParallelUndoModel" "eventAll" "I", Cond.fieldLink RX8 180 "ParallelUndoModel" "ran" "I", Cond.fieldLink RX8 72 "ParallelUndoModel" "has" "[Z", Cond.fieldLink RX8 7 "ParallelUndoModel" "leaf" "[J", Cond.fieldLink RX8 78 "ParallelUndoModel" "value" "[J", Cond.fieldLink RX8 60 "ParallelUndoModel" "eventCount" "[I", Cond.fieldLink RX8 35 "ParallelUndoModel" "failed" "[Z", Cond.fieldLink RX8 111 "ParallelUndoModel" "allEvents" "[J", Cond.fieldLink RX8 63 "ParallelUndoModel" "eventValue" "[J", Cond.fieldLink RX8 114 "ParallelUndoModel" "allEventCalls" "[I", Cond.fieldLink RX8 39 "ParallelUndoModel" "wrote" "[Z", Cond.fieldLink RX8 117 "ParallelUndoModel" "lastFailed" "[Z", Cond.fieldLink RX8 120 "ParallelUndoModel" "lastSaw" "[I", Cond.fieldLink RX8 45 "ParallelUndoModel" "kept" "[I", Cond.fieldLink RX8 123 "ParallelUndoModel" "lastWrote" "[I", Cond.fieldLink RX8 126 "ParallelUndoModel" "lastDid" "[I", Cond.fieldLink RX8 69 "ParallelUndoModel" "did" "[I", Cond.fieldLink RX8 129 "ParallelUndoModel" "lastBegan" "[I", Cond.fieldLink RX8 66 "ParallelUndoModel" "began" "[I", Cond.fieldLink RX8 102 "ParallelUndoModel" "group" "[I", Cond.fieldLink RX8 257 "ParallelUndoModel" "groups" "I", Cond.methodLink RX8 250 yX8_touches, Cond.instanceMethod yX8_touches, Cond.selects RX8 yX8_touches yX8_touches]
def wsX8_settle_r2 : List Cond := [Cond.initialized RX8, Cond.code yX8_touches cX8_touches 5 (some .boolean), Cond.fieldLink RX8 48 "ParallelUndoModel" "keptLeaf" "[I", Cond.methodLink RX8 254 yX8_rootOf, Cond.instanceMethod yX8_rootOf, Cond.selects RX8 yX8_rootOf yX8_rootOf, Cond.code yX8_rootOf cX8_rootOf 3 (some .int)]
def wsX8_settle : List Cond := .code yX8_settle cX8_settle 6 none :: ((wsX8_settle_r1 ++ wsX8_settle_r2) ++ wsX80)
def wsX8_run_r1 : List Cond := [Cond.fieldLink RX8 145 "ParallelUndoModel" "calls" "I", Cond.fieldLink RX8 180 "ParallelUndoModel" "ran" "I", Cond.fieldLink RX8 183 "ParallelUndoModel" "turns" "I", Cond.fieldLink RX8 186 "ParallelUndoModel" "fell" "Z", Cond.fieldLink RX8 189 "ParallelUndoModel" "looks" "I", Cond.fieldLink RX8 192 "ParallelUndoModel" "undone" "I", Cond.fieldLink RX8 195 "ParallelUndoModel" "givenUp" "I", Cond.fieldLink RX8 177 "ParallelUndoModel" "conflictCount" "I", Cond.fieldLink RX8 174 "ParallelUndoModel" "allActs" "I", Cond.fieldLink RX8 198 "ParallelUndoModel" "nextRun" "I", Cond.fieldLink RX8 201 "ParallelUndoModel" "nextLook" "I", Cond.fieldLink RX8 72 "ParallelUndoModel" "has" "[Z", Cond.fieldLink RX8 75 "ParallelUndoModel" "perhaps" "[Z", Cond.fieldLink RX8 84 "ParallelUndoModel" "how" "[I", Cond.fieldLink RX8 87 "ParallelUndoModel" "runOf" "[I", Cond.fieldLink RX8 66 "ParallelUndoModel" "began" "[I", Cond.fieldLink RX8 69 "ParallelUndoModel" "did" "[I", Cond.fieldLink RX8 45 "ParallelUndoModel" "kept" "[I", Cond.fieldLink RX8 35 "ParallelUndoModel" "failed" "[Z", Cond.fieldLink RX8 60 "ParallelUndoModel" "eventCount" "[I", Cond.fieldLink RX8 93 "ParallelUndoModel" "task" "[I", Cond.constant RX8 208 (1103515245), Cond.methodLink RX8 204 yX8_isDone, Cond.instanceMethod yX8_isDone]
def wsX8_run_r2 : List Cond := [Cond.selects RX8 yX8_isDone yX8_isDone, Cond.initialized RX8, Cond.code yX8_isDone cX8_isDone 4 (some .boolean), Cond.methodLink RX8 209 yX8_step, Cond.instanceMethod yX8_step, Cond.selects RX8 yX8_step yX8_step, Cond.code yX8_step cX8_step 3 none, Cond.methodLink RX8 219 yX8_runStep, Cond.instanceMethod yX8_runStep, Cond.selects RX8 yX8_runStep yX8_runStep, Cond.code yX8_runStep cX8_runStep 4 none, Cond.fieldLink RX8 96 "ParallelUndoModel" "taskCall" "[I", Cond.fieldLink RX8 90 "ParallelUndoModel" "waitsFor" "[I", Cond.methodLink RX8 234 yX8_isOver, Cond.instanceMethod yX8_isOver, Cond.selects RX8 yX8_isOver yX8_isOver, Cond.code yX8_isOver cX8_isOver 2 (some .boolean), Cond.fieldLink RX8 29 "ParallelUndoModel" "place" "[I", Cond.fieldLink RX8 13 "ParallelUndoModel" "acts" "[I", Cond.methodLink RX8 237 yX8_doAct, Cond.instanceMethod yX8_doAct, Cond.selects RX8 yX8_doAct yX8_doAct, Cond.code yX8_doAct cX8_doAct 8 (some .int), Cond.fieldLink RX8 20 "ParallelUndoModel" "left" "[I"]
def wsX8_run_r3 : List Cond := [Cond.fieldLink RX8 23 "ParallelUndoModel" "right" "[I", Cond.fieldLink RX8 17 "ParallelUndoModel" "kind" "[I", Cond.fieldLink RX8 26 "ParallelUndoModel" "number" "[J", Cond.fieldLink RX8 32 "ParallelUndoModel" "register" "[J", Cond.fieldLink RX8 39 "ParallelUndoModel" "wrote" "[Z", Cond.fieldLink RX8 42 "ParallelUndoModel" "written" "[J", Cond.fieldLink RX8 48 "ParallelUndoModel" "keptLeaf" "[I", Cond.fieldLink RX8 156 "ParallelUndoModel" "seenPerhaps" "Z", Cond.fieldLink RX8 150 "ParallelUndoModel" "seenCall" "I", Cond.fieldLink RX8 51 "ParallelUndoModel" "keptCall" "[I", Cond.fieldLink RX8 54 "ParallelUndoModel" "keptRun" "[I", Cond.fieldLink RX8 153 "ParallelUndoModel" "seenRun" "I", Cond.fieldLink RX8 57 "ParallelUndoModel" "keptValue" "[J", Cond.fieldLink RX8 160 "ParallelUndoModel" "seenValue" "J", Cond.fieldLink RX8 63 "ParallelUndoModel" "eventValue" "[J", Cond.methodLink RX8 166 yX8_leafOf, Cond.static yX8_leafOf, Cond.code yX8_leafOf cX8_leafOf 3 (some .int), Cond.constantLong RX8 164 (32), Cond.methodLink RX8 170 yX8_see, Cond.instanceMethod yX8_see, Cond.selects RX8 yX8_see yX8_see, Cond.code yX8_see cX8_see 5 none, Cond.fieldLink RX8 7 "ParallelUndoModel" "leaf" "[J"]
def wsX8_run_r4 : List Cond := [Cond.fieldLink RX8 81 "ParallelUndoModel" "ofRun" "[I", Cond.fieldLink RX8 78 "ParallelUndoModel" "value" "[J", Cond.methodLink RX8 241 yX8_conflict0, Cond.instanceMethod yX8_conflict0, Cond.selects RX8 yX8_conflict0 yX8_conflict0, Cond.code yX8_conflict0 cX8_conflict0 3 none, Cond.fieldLink RX8 105 "ParallelUndoModel" "conflictCall" "[I", Cond.fieldLink RX8 108 "ParallelUndoModel" "conflictOther" "[I", Cond.methodLink RX8 244 yX8_ends, Cond.instanceMethod yX8_ends, Cond.selects RX8 yX8_ends yX8_ends, Cond.code yX8_ends cX8_ends 6 none, Cond.methodLink RX8 225 yX8_toLook, Cond.instanceMethod yX8_toLook, Cond.selects RX8 yX8_toLook yX8_toLook, Cond.code yX8_toLook cX8_toLook 3 none, Cond.fieldLink RX8 99 "ParallelUndoModel" "taskRun" "[I", Cond.methodLink RX8 222 yX8_lookStep, Cond.instanceMethod yX8_lookStep, Cond.selects RX8 yX8_lookStep yX8_lookStep, Cond.code yX8_lookStep cX8_lookStep 5 none, Cond.fieldLink RX8 141 "ParallelUndoModel" "bound" "I", Cond.methodLink RX8 228 yX8_toRun, Cond.instanceMethod yX8_toRun]
def wsX8_run_r5 : List Cond := [Cond.selects RX8 yX8_toRun yX8_toRun, Cond.code yX8_toRun cX8_toRun 3 none, Cond.methodLink RX8 231 yX8_begin, Cond.instanceMethod yX8_begin, Cond.selects RX8 yX8_begin yX8_begin, Cond.code yX8_begin cX8_begin 3 none, Cond.methodLink RX8 213 yX8_allInOrder, Cond.instanceMethod yX8_allInOrder, Cond.selects RX8 yX8_allInOrder yX8_allInOrder, Cond.code yX8_allInOrder cX8_allInOrder 4 none, Cond.methodLink RX8 216 yX8_settle, Cond.instanceMethod yX8_settle, Cond.selects RX8 yX8_settle yX8_settle, Cond.code yX8_settle cX8_settle 6 none, Cond.fieldLink RX8 247 "ParallelUndoModel" "eventAll" "I", Cond.fieldLink RX8 111 "ParallelUndoModel" "allEvents" "[J", Cond.fieldLink RX8 114 "ParallelUndoModel" "allEventCalls" "[I", Cond.fieldLink RX8 117 "ParallelUndoModel" "lastFailed" "[Z", Cond.fieldLink RX8 120 "ParallelUndoModel" "lastSaw" "[I", Cond.fieldLink RX8 123 "ParallelUndoModel" "lastWrote" "[I", Cond.fieldLink RX8 126 "ParallelUndoModel" "lastDid" "[I", Cond.fieldLink RX8 129 "ParallelUndoModel" "lastBegan" "[I", Cond.fieldLink RX8 102 "ParallelUndoModel" "group" "[I", Cond.fieldLink RX8 257 "ParallelUndoModel" "groups" "I"]
def wsX8_run_r6 : List Cond := [Cond.methodLink RX8 250 yX8_touches, Cond.instanceMethod yX8_touches, Cond.selects RX8 yX8_touches yX8_touches, Cond.code yX8_touches cX8_touches 5 (some .boolean), Cond.methodLink RX8 254 yX8_rootOf, Cond.instanceMethod yX8_rootOf, Cond.selects RX8 yX8_rootOf yX8_rootOf, Cond.code yX8_rootOf cX8_rootOf 3 (some .int)]
def wsX8_run : List Cond := .code yX8_run cX8_run 4 (some .int) :: ((wsX8_run_r1 ++ (wsX8_run_r2 ++ (wsX8_run_r3 ++ (wsX8_run_r4 ++ (wsX8_run_r5 ++ wsX8_run_r6))))) ++ wsX80)
def wsX8_at : List Cond := .code yX8_at cX8_at 2 (some .long) :: ([.fieldLink RX8 7 "ParallelUndoModel" "leaf" "[J"] ++ wsX80)
def wsX8_inOrder : List Cond := .code yX8_inOrder cX8_inOrder 10 (some .long) :: ([.fieldLink RX8 132 "ParallelUndoModel" "plain" "[J", .fieldLink RX8 7 "ParallelUndoModel" "leaf" "[J", .fieldLink RX8 145 "ParallelUndoModel" "calls" "I", .fieldLink RX8 135 "ParallelUndoModel" "plainOwn" "[J", .fieldLink RX8 138 "ParallelUndoModel" "plainRegister" "[J", .fieldLink RX8 13 "ParallelUndoModel" "acts" "[I", .fieldLink RX8 20 "ParallelUndoModel" "left" "[I", .fieldLink RX8 23 "ParallelUndoModel" "right" "[I", .fieldLink RX8 17 "ParallelUndoModel" "kind" "[I", .fieldLink RX8 26 "ParallelUndoModel" "number" "[J", .methodLink RX8 166 yX8_leafOf, .static yX8_leafOf, .initialized RX8, .code yX8_leafOf cX8_leafOf 3 (some .int), .constantLong RX8 164 (32)] ++ wsX80)
def wsX8_events : List Cond := .code yX8_events cX8_events 1 (some .int) :: ([.fieldLink RX8 247 "ParallelUndoModel" "eventAll" "I"] ++ wsX80)
def wsX8_event : List Cond := .code yX8_event cX8_event 3 (some .long) :: ([.fieldLink RX8 247 "ParallelUndoModel" "eventAll" "I", .fieldLink RX8 111 "ParallelUndoModel" "allEvents" "[J", .fieldLink RX8 114 "ParallelUndoModel" "allEventCalls" "[I"] ++ wsX80)
def wsX8_of : List Cond := .code yX8_of cX8_of 3 (some .int) :: ([.fieldLink RX8 180 "ParallelUndoModel" "ran" "I", .fieldLink RX8 129 "ParallelUndoModel" "lastBegan" "[I", .fieldLink RX8 126 "ParallelUndoModel" "lastDid" "[I", .fieldLink RX8 117 "ParallelUndoModel" "lastFailed" "[Z", .fieldLink RX8 120 "ParallelUndoModel" "lastSaw" "[I", .fieldLink RX8 123 "ParallelUndoModel" "lastWrote" "[I", .fieldLink RX8 102 "ParallelUndoModel" "group" "[I"] ++ wsX80)
def wsX8_conflicts : List Cond := .code yX8_conflicts cX8_conflicts 1 (some .int) :: ([.fieldLink RX8 177 "ParallelUndoModel" "conflictCount" "I"] ++ wsX80)
def wsX8_conflict : List Cond := .code yX8_conflict cX8_conflict 3 (some .int) :: ([.fieldLink RX8 177 "ParallelUndoModel" "conflictCount" "I", .fieldLink RX8 105 "ParallelUndoModel" "conflictCall" "[I", .fieldLink RX8 108 "ParallelUndoModel" "conflictOther" "[I"] ++ wsX80)
def wsX8_told : List Cond := .code yX8_told cX8_told 2 (some .int) :: ([.fieldLink RX8 183 "ParallelUndoModel" "turns" "I", .fieldLink RX8 186 "ParallelUndoModel" "fell" "Z", .fieldLink RX8 189 "ParallelUndoModel" "looks" "I", .fieldLink RX8 192 "ParallelUndoModel" "undone" "I", .fieldLink RX8 195 "ParallelUndoModel" "givenUp" "I", .fieldLink RX8 174 "ParallelUndoModel" "allActs" "I", .fieldLink RX8 257 "ParallelUndoModel" "groups" "I", .fieldLink RX8 180 "ParallelUndoModel" "ran" "I"] ++ wsX80)
def wsJ9_min_7cf53 : List Cond := .code yJ9_min_7cf53 cJ9_min_7cf53 2 (some .int) :: ([])
def wsL_law_r1 : List Cond := [Cond.classLink RL 7 RX7, Cond.instantiable RX7 5, Cond.initialized RX7, Cond.classLink RL 10 RX8, Cond.instantiable RX8 61, Cond.initialized RX8, Cond.constantLong RL 18 (4294967295), Cond.methodLink RL 9 yX7_init, Cond.instanceMethod yX7_init, Cond.code yX7_init cX7_init 1 none, Cond.methodLink RX7 1 objectInit, Cond.instanceMethod objectInit, Cond.code objectInit ⟨#[0xb1]⟩ 1 none, Cond.arrayClass .long, Cond.fieldLink RX7 9 "ParallelUndo" "leaves" "[J", Cond.classLink RX7 13 RX2, Cond.instantiable RX2 6, Cond.initialized RX2, Cond.fieldLink RX7 16 "ParallelUndo" "block" "LParallelUndo$Block;", Cond.classLink RX7 20 RX6, Cond.instantiable RX6 17, Cond.initialized RX6, Cond.fieldLink RX7 23 "ParallelUndo" "latest" "LParallelUndo$Workers;", Cond.classLink RX7 27 RX1]
def wsL_law_r2 : List Cond := [Cond.instantiable RX1 3, Cond.initialized RX1, Cond.fieldLink RX7 30 "ParallelUndo" "trial" "LParallelUndo$Bench;", Cond.fieldLink RX7 34 "ParallelUndo" "fallBound" "I", Cond.instanceMethod yX2_init, Cond.code yX2_init cX2_init 1 none, Cond.methodLink RX2 3 objectInit, Cond.arrayClass .int, Cond.fieldLink RX2 9 "ParallelUndo$Block" "acts" "[I", Cond.fieldLink RX2 15 "ParallelUndo$Block" "kind" "[I", Cond.fieldLink RX2 18 "ParallelUndo$Block" "first" "[I", Cond.fieldLink RX2 21 "ParallelUndo$Block" "second" "[I", Cond.fieldLink RX2 24 "ParallelUndo$Block" "value" "[J", Cond.instanceMethod yX6_init, Cond.code yX6_init cX6_init 1 none, Cond.methodLink RX6 3 objectInit, Cond.classLink RX6 9 RX1, Cond.fieldLink RX6 12 "ParallelUndo$Workers" "bench" "LParallelUndo$Bench;", Cond.classLink RX6 18 RX3, Cond.instantiable RX3 3, Cond.initialized RX3, Cond.fieldLink RX6 21 "ParallelUndo$Workers" "conflicts" "LParallelUndo$Conflicts;", Cond.fieldLink RX6 25 "ParallelUndo$Workers" "status" "[I", Cond.fieldLink RX6 29 "ParallelUndo$Workers" "awaited" "[I"]
def wsL_law_r3 : List Cond := [Cond.fieldLink RX6 32 "ParallelUndo$Workers" "number" "[I", Cond.fieldLink RX6 35 "ParallelUndo$Workers" "task" "[I", Cond.fieldLink RX6 38 "ParallelUndo$Workers" "taskCall" "[I", Cond.fieldLink RX6 41 "ParallelUndo$Workers" "taskNumber" "[I", Cond.methodLink RX6 11 yX1_init, Cond.instanceMethod yX1_init, Cond.code yX1_init cX1_init 2 none, Cond.methodLink RX1 3 objectInit, Cond.classLink RX1 9 RX5, Cond.instantiable RX5 4, Cond.initialized RX5, Cond.fieldLink RX1 12 "ParallelUndo$Bench" "table" "LParallelUndo$Table;", Cond.classLink RX1 18 RX0, Cond.fieldLink RX1 20 "ParallelUndo$Bench" "attempts" "[LParallelUndo$Attempt;", Cond.instantiable RX0 18, Cond.initialized RX0, Cond.instanceMethod yX5_init, Cond.code yX5_init cX5_init 1 none, Cond.methodLink RX5 3 objectInit, Cond.fieldLink RX5 9 "ParallelUndo$Table" "before" "[J", Cond.fieldLink RX5 15 "ParallelUndo$Table" "state" "[I", Cond.fieldLink RX5 19 "ParallelUndo$Table" "number" "[I", Cond.fieldLink RX5 22 "ParallelUndo$Table" "value" "[J", Cond.methodLink RX1 24 yX0_init]
def wsL_law_r4 : List Cond := [Cond.instanceMethod yX0_init, Cond.code yX0_init cX0_init 2 none, Cond.methodLink RX0 3 objectInit, Cond.fieldLink RX0 9 "ParallelUndo$Attempt" "written" "[J", Cond.fieldLink RX0 15 "ParallelUndo$Attempt" "eventValue" "[J", Cond.fieldLink RX0 18 "ParallelUndo$Attempt" "register" "[J", Cond.fieldLink RX0 21 "ParallelUndo$Attempt" "keptValue" "[J", Cond.fieldLink RX0 24 "ParallelUndo$Attempt" "keptLeaf" "[I", Cond.fieldLink RX0 28 "ParallelUndo$Attempt" "keptWriter" "[I", Cond.fieldLink RX0 31 "ParallelUndo$Attempt" "keptNumber" "[I", Cond.fieldLink RX0 34 "ParallelUndo$Attempt" "self" "I", Cond.instanceMethod yX3_init, Cond.code yX3_init cX3_init 1 none, Cond.methodLink RX3 1 objectInit, Cond.fieldLink RX3 9 "ParallelUndo$Conflicts" "hit" "[I", Cond.fieldLink RX3 13 "ParallelUndo$Conflicts" "by" "[I", Cond.methodLink RX7 29 yX1_init, Cond.methodLink RL 12 yX8_init, Cond.instanceMethod yX8_init, Cond.code yX8_init cX8_init 1 none, Cond.methodLink RX8 1 objectInit, Cond.fieldLink RX8 7 "ParallelUndoModel" "leaf" "[J", Cond.fieldLink RX8 13 "ParallelUndoModel" "acts" "[I", Cond.fieldLink RX8 17 "ParallelUndoModel" "kind" "[I"]
def wsL_law_r5 : List Cond := [Cond.fieldLink RX8 20 "ParallelUndoModel" "left" "[I", Cond.fieldLink RX8 23 "ParallelUndoModel" "right" "[I", Cond.fieldLink RX8 26 "ParallelUndoModel" "number" "[J", Cond.fieldLink RX8 29 "ParallelUndoModel" "place" "[I", Cond.fieldLink RX8 32 "ParallelUndoModel" "register" "[J", Cond.arrayClass .boolean, Cond.fieldLink RX8 35 "ParallelUndoModel" "failed" "[Z", Cond.fieldLink RX8 39 "ParallelUndoModel" "wrote" "[Z", Cond.fieldLink RX8 42 "ParallelUndoModel" "written" "[J", Cond.fieldLink RX8 45 "ParallelUndoModel" "kept" "[I", Cond.fieldLink RX8 48 "ParallelUndoModel" "keptLeaf" "[I", Cond.fieldLink RX8 51 "ParallelUndoModel" "keptCall" "[I", Cond.fieldLink RX8 54 "ParallelUndoModel" "keptRun" "[I", Cond.fieldLink RX8 57 "ParallelUndoModel" "keptValue" "[J", Cond.fieldLink RX8 60 "ParallelUndoModel" "eventCount" "[I", Cond.fieldLink RX8 63 "ParallelUndoModel" "eventValue" "[J", Cond.fieldLink RX8 66 "ParallelUndoModel" "began" "[I", Cond.fieldLink RX8 69 "ParallelUndoModel" "did" "[I", Cond.fieldLink RX8 72 "ParallelUndoModel" "has" "[Z", Cond.fieldLink RX8 75 "ParallelUndoModel" "perhaps" "[Z", Cond.fieldLink RX8 78 "ParallelUndoModel" "value" "[J", Cond.fieldLink RX8 81 "ParallelUndoModel" "ofRun" "[I", Cond.fieldLink RX8 84 "ParallelUndoModel" "how" "[I", Cond.fieldLink RX8 87 "ParallelUndoModel" "runOf" "[I"]
def wsL_law_r6 : List Cond := [Cond.fieldLink RX8 90 "ParallelUndoModel" "waitsFor" "[I", Cond.fieldLink RX8 93 "ParallelUndoModel" "task" "[I", Cond.fieldLink RX8 96 "ParallelUndoModel" "taskCall" "[I", Cond.fieldLink RX8 99 "ParallelUndoModel" "taskRun" "[I", Cond.fieldLink RX8 102 "ParallelUndoModel" "group" "[I", Cond.fieldLink RX8 105 "ParallelUndoModel" "conflictCall" "[I", Cond.fieldLink RX8 108 "ParallelUndoModel" "conflictOther" "[I", Cond.fieldLink RX8 111 "ParallelUndoModel" "allEvents" "[J", Cond.fieldLink RX8 114 "ParallelUndoModel" "allEventCalls" "[I", Cond.fieldLink RX8 117 "ParallelUndoModel" "lastFailed" "[Z", Cond.fieldLink RX8 120 "ParallelUndoModel" "lastSaw" "[I", Cond.fieldLink RX8 123 "ParallelUndoModel" "lastWrote" "[I", Cond.fieldLink RX8 126 "ParallelUndoModel" "lastDid" "[I", Cond.fieldLink RX8 129 "ParallelUndoModel" "lastBegan" "[I", Cond.fieldLink RX8 132 "ParallelUndoModel" "plain" "[J", Cond.fieldLink RX8 135 "ParallelUndoModel" "plainOwn" "[J", Cond.fieldLink RX8 138 "ParallelUndoModel" "plainRegister" "[J", Cond.fieldLink RX8 141 "ParallelUndoModel" "bound" "I", Cond.methodLink RL 13 yX7_call, Cond.instanceMethod yX7_call, Cond.selects RX7 yX7_call yX7_call, Cond.code yX7_call cX7_call 1 (some .int), Cond.methodLink RX7 38 yX2_addCall, Cond.instanceMethod yX2_addCall]
def wsL_law_r7 : List Cond := [Cond.selects RX2 yX2_addCall yX2_addCall, Cond.code yX2_addCall cX2_addCall 1 (some .int), Cond.fieldLink RX2 28 "ParallelUndo$Block" "calls" "I", Cond.methodLink RL 17 yX8_call, Cond.instanceMethod yX8_call, Cond.selects RX8 yX8_call yX8_call, Cond.code yX8_call cX8_call 1 (some .int), Cond.fieldLink RX8 145 "ParallelUndoModel" "calls" "I", Cond.methodLink RL 20 yX7_act, Cond.instanceMethod yX7_act, Cond.selects RX7 yX7_act yX7_act, Cond.code yX7_act cX7_act 7 (some .int), Cond.methodLink RX7 42 yX4_allows, Cond.static yX4_allows, Cond.initialized RX4, Cond.code yX4_allows cX4_allows 5 (some .boolean), Cond.methodLink RX4 11 yX4_isRegister, Cond.static yX4_isRegister, Cond.code yX4_isRegister cX4_isRegister 1 (some .boolean), Cond.methodLink RX4 15 yX4_hasSecond, Cond.static yX4_hasSecond, Cond.code yX4_hasSecond cX4_hasSecond 1 (some .boolean), Cond.methodLink RX4 18 yX4_allowsValue, Cond.static yX4_allowsValue]
def wsL_law_r8 : List Cond := [Cond.code yX4_allowsValue cX4_allowsValue 3 (some .boolean), Cond.constantLong RX4 22 (12), Cond.methodLink RX7 48 yX2_addAct, Cond.instanceMethod yX2_addAct, Cond.selects RX2 yX2_addAct yX2_addAct, Cond.code yX2_addAct cX2_addAct 8 (some .int), Cond.methodLink RL 24 yX8_act, Cond.instanceMethod yX8_act, Cond.selects RX8 yX8_act yX8_act, Cond.code yX8_act cX8_act 10 (some .int), Cond.constantLong RX8 148 (12), Cond.methodLink RL 25 yX7_clear, Cond.instanceMethod yX7_clear, Cond.selects RX7 yX7_clear yX7_clear, Cond.code yX7_clear cX7_clear 1 (some .int), Cond.methodLink RX7 52 yX2_dropCalls, Cond.instanceMethod yX2_dropCalls, Cond.selects RX2 yX2_dropCalls yX2_dropCalls, Cond.code yX2_dropCalls cX2_dropCalls 2 (some .int), Cond.methodLink RL 28 yX8_clear, Cond.instanceMethod yX8_clear, Cond.selects RX8 yX8_clear yX8_clear, Cond.code yX8_clear cX8_clear 2 (some .int), Cond.methodLink RL 29 yX7_leaf]
def wsL_law_r9 : List Cond := [Cond.instanceMethod yX7_leaf, Cond.selects RX7 yX7_leaf yX7_leaf, Cond.code yX7_leaf cX7_leaf 4 (some .boolean), Cond.methodLink RX7 55 yX7_isLeaf, Cond.static yX7_isLeaf, Cond.code yX7_isLeaf cX7_isLeaf 1 (some .boolean), Cond.methodLink RL 33 yX8_leaf, Cond.instanceMethod yX8_leaf, Cond.selects RX8 yX8_leaf yX8_leaf, Cond.code yX8_leaf cX8_leaf 4 (some .boolean), Cond.methodLink RL 34 yX7_bound, Cond.instanceMethod yX7_bound, Cond.selects RX7 yX7_bound yX7_bound, Cond.code yX7_bound cX7_bound 2 (some .boolean), Cond.methodLink RL 38 yX8_bound, Cond.instanceMethod yX8_bound, Cond.selects RX8 yX8_bound yX8_bound, Cond.code yX8_bound cX8_bound 2 (some .boolean), Cond.methodLink RL 39 yX7_run, Cond.instanceMethod yX7_run, Cond.selects RX7 yX7_run yX7_run, Cond.code yX7_run cX7_run 4 (some .int), Cond.fieldLink RX7 67 "ParallelUndo$Workers" "bench" "LParallelUndo$Bench;", Cond.fieldLink RX7 70 "ParallelUndo$Bench" "table" "LParallelUndo$Table;"]
def wsL_law_r10 : List Cond := [Cond.fieldLink RX7 80 "ParallelUndo$Workers" "turns" "I", Cond.methodLink RX7 59 yX6_open, Cond.instanceMethod yX6_open, Cond.selects RX6 yX6_open yX6_open, Cond.code yX6_open cX6_open 5 none, Cond.fieldLink RX6 48 "ParallelUndo$Conflicts" "count" "I", Cond.fieldLink RX6 52 "ParallelUndo$Workers" "turns" "I", Cond.fieldLink RX6 55 "ParallelUndo$Workers" "looks" "I", Cond.fieldLink RX6 58 "ParallelUndo$Workers" "undone" "I", Cond.fieldLink RX6 61 "ParallelUndo$Workers" "givenUp" "I", Cond.fieldLink RX6 64 "ParallelUndo$Workers" "fell" "Z", Cond.fieldLink RX6 68 "ParallelUndo$Workers" "size" "I", Cond.fieldLink RX6 71 "ParallelUndo$Workers" "fallBound" "I", Cond.fieldLink RX6 74 "ParallelUndo$Workers" "runRow" "I", Cond.fieldLink RX6 77 "ParallelUndo$Workers" "lookRow" "I", Cond.methodLink RX6 44 yX1_open, Cond.instanceMethod yX1_open, Cond.selects RX1 yX1_open yX1_open, Cond.code yX1_open cX1_open 4 none, Cond.fieldLink RX1 27 "ParallelUndo$Block" "calls" "I", Cond.fieldLink RX1 33 "ParallelUndo$Bench" "calls" "I", Cond.methodLink RX1 34 yX5_open, Cond.instanceMethod yX5_open, Cond.selects RX5 yX5_open yX5_open]
def wsL_law_r11 : List Cond := [Cond.code yX5_open cX5_open 2 none, Cond.methodLink RX5 25 arraycopyName, Cond.native arraycopyName, Cond.static arraycopyName, Cond.initialized "java/lang/System", Cond.methodLink RX5 31 yJ7_fill_53178, Cond.static yJ7_fill_53178, Cond.initialized RJ7, Cond.code yJ7_fill_53178 cJ7_fill_53178 4 none, Cond.methodLink RX1 38 yX0_open, Cond.instanceMethod yX0_open, Cond.selects RX0 yX0_open yX0_open, Cond.code yX0_open cX0_open 1 none, Cond.fieldLink RX0 38 "ParallelUndo$Attempt" "began" "I", Cond.fieldLink RX0 41 "ParallelUndo$Attempt" "doneInAll" "I", Cond.methodLink RX6 80 yJ7_fill_53178, Cond.methodLink RX7 63 yX6_work, Cond.instanceMethod yX6_work, Cond.selects RX6 yX6_work yX6_work, Cond.code yX6_work cX6_work 4 none, Cond.constant RX6 86 (1000000), Cond.constant RX6 91 (1103515245), Cond.methodLink RX6 87 yX6_isDone, Cond.instanceMethod yX6_isDone]
def wsL_law_r12 : List Cond := [Cond.selects RX6 yX6_isDone yX6_isDone, Cond.code yX6_isDone cX6_isDone 2 (some .boolean), Cond.fieldLink RX6 103 "ParallelUndo$Bench" "calls" "I", Cond.methodLink RX6 92 yX6_step, Cond.instanceMethod yX6_step, Cond.selects RX6 yX6_step yX6_step, Cond.code yX6_step cX6_step 3 none, Cond.methodLink RX6 106 yX6_goOn, Cond.instanceMethod yX6_goOn, Cond.selects RX6 yX6_goOn yX6_goOn, Cond.code yX6_goOn cX6_goOn 6 none, Cond.fieldLink RX6 123 "ParallelUndo$Bench" "attempts" "[LParallelUndo$Attempt;", Cond.fieldLink RX6 132 "ParallelUndo$Bench" "table" "LParallelUndo$Table;", Cond.methodLink RX6 136 yX0_doNext, Cond.instanceMethod yX0_doNext, Cond.selects RX0 yX0_doNext yX0_doNext, Cond.code yX0_doNext cX0_doNext 10 (some .int), Cond.fieldLink RX0 44 "ParallelUndo$Attempt" "next" "I", Cond.fieldLink RX0 88 "ParallelUndo$Block" "kind" "[I", Cond.fieldLink RX0 91 "ParallelUndo$Block" "first" "[I", Cond.fieldLink RX0 94 "ParallelUndo$Block" "second" "[I", Cond.fieldLink RX0 97 "ParallelUndo$Block" "value" "[J", Cond.fieldLink RX0 47 "ParallelUndo$Attempt" "done" "I", Cond.methodLink RX0 84 yX0_isOver]
def wsL_law_r13 : List Cond := [Cond.instanceMethod yX0_isOver, Cond.selects RX0 yX0_isOver yX0_isOver, Cond.code yX0_isOver cX0_isOver 2 (some .boolean), Cond.fieldLink RX0 50 "ParallelUndo$Attempt" "failed" "Z", Cond.methodLink RX0 72 yX2_hasAct, Cond.instanceMethod yX2_hasAct, Cond.selects RX2 yX2_hasAct yX2_hasAct, Cond.code yX2_hasAct cX2_hasAct 3 (some .boolean), Cond.methodLink RX0 102 yX0_leafAt, Cond.instanceMethod yX0_leafAt, Cond.selects RX0 yX0_leafAt yX0_leafAt, Cond.code yX0_leafAt cX0_leafAt 4 (some .int), Cond.constantLong RX0 114 (31), Cond.methodLink RX0 106 yX0_read, Cond.instanceMethod yX0_read, Cond.selects RX0 yX0_read yX0_read, Cond.code yX0_read cX0_read 5 (some .int), Cond.fieldLink RX0 57 "ParallelUndo$Attempt" "keptMask" "I", Cond.methodLink RX0 116 yX0_hasWritten, Cond.instanceMethod yX0_hasWritten, Cond.selects RX0 yX0_hasWritten yX0_hasWritten, Cond.code yX0_hasWritten cX0_hasWritten 2 (some .boolean), Cond.fieldLink RX0 60 "ParallelUndo$Attempt" "writtenMask" "I", Cond.methodLink RX0 120 yX5_writerBelow]
def wsL_law_r14 : List Cond := [Cond.instanceMethod yX5_writerBelow, Cond.selects RX5 yX5_writerBelow yX5_writerBelow, Cond.code yX5_writerBelow cX5_writerBelow 4 (some .int), Cond.methodLink RX0 126 yX5_isPerhaps, Cond.instanceMethod yX5_isPerhaps, Cond.selects RX5 yX5_isPerhaps yX5_isPerhaps, Cond.code yX5_isPerhaps cX5_isPerhaps 3 (some .boolean), Cond.methodLink RX0 129 yX5_numberOf, Cond.instanceMethod yX5_numberOf, Cond.selects RX5 yX5_numberOf yX5_numberOf, Cond.code yX5_numberOf cX5_numberOf 3 (some .int), Cond.methodLink RX0 132 yX5_valueOf, Cond.instanceMethod yX5_valueOf, Cond.selects RX5 yX5_valueOf yX5_valueOf, Cond.code yX5_valueOf cX5_valueOf 3 (some .long), Cond.methodLink RX0 136 yX0_keep, Cond.instanceMethod yX0_keep, Cond.selects RX0 yX0_keep yX0_keep, Cond.code yX0_keep cX0_keep 6 none, Cond.fieldLink RX0 54 "ParallelUndo$Attempt" "kept" "I", Cond.methodLink RX0 110 yX0_perform, Cond.instanceMethod yX0_perform, Cond.selects RX0 yX0_perform yX0_perform, Cond.code yX0_perform cX0_perform 6 none]
def wsL_law_r15 : List Cond := [Cond.methodLink RX0 139 yX0_write, Cond.instanceMethod yX0_write, Cond.selects RX0 yX0_write yX0_write, Cond.code yX0_write cX0_write 4 none, Cond.methodLink RX0 143 yX0_raise, Cond.instanceMethod yX0_raise, Cond.selects RX0 yX0_raise yX0_raise, Cond.code yX0_raise cX0_raise 3 none, Cond.fieldLink RX0 63 "ParallelUndo$Attempt" "eventCount" "I", Cond.methodLink RX0 147 yX0_fail, Cond.instanceMethod yX0_fail, Cond.selects RX0 yX0_fail yX0_fail, Cond.code yX0_fail cX0_fail 1 none, Cond.methodLink RX6 140 yX6_giveUp, Cond.instanceMethod yX6_giveUp, Cond.selects RX6 yX6_giveUp yX6_giveUp, Cond.code yX6_giveUp cX6_giveUp 4 none, Cond.methodLink RX6 151 yX3_note, Cond.instanceMethod yX3_note, Cond.selects RX3 yX3_note yX3_note, Cond.code yX3_note cX3_note 3 none, Cond.fieldLink RX3 16 "ParallelUndo$Conflicts" "count" "I", Cond.methodLink RX6 144 yX0_isOver, Cond.methodLink RX6 148 yX6_end]
def wsL_law_r16 : List Cond := [Cond.instanceMethod yX6_end, Cond.selects RX6 yX6_end yX6_end, Cond.code yX6_end cX6_end 4 none, Cond.methodLink RX6 154 yX5_publish, Cond.instanceMethod yX5_publish, Cond.selects RX5 yX5_publish yX5_publish, Cond.code yX5_publish cX5_publish 6 (some .boolean), Cond.fieldLink RX5 45 "ParallelUndo$Attempt" "self" "I", Cond.fieldLink RX5 55 "ParallelUndo$Attempt" "written" "[J", Cond.methodLink RX5 51 yX0_hasWritten, Cond.methodLink RX6 160 yX6_wakeThoseWaitingFor, Cond.instanceMethod yX6_wakeThoseWaitingFor, Cond.selects RX6 yX6_wakeThoseWaitingFor yX6_wakeThoseWaitingFor, Cond.code yX6_wakeThoseWaitingFor cX6_wakeThoseWaitingFor 3 none, Cond.methodLink RX6 163 Lib.Math.min.name, Cond.static Lib.Math.min.name, Cond.initialized "java/lang/Math", Cond.code Lib.Math.min.name Lib.Math.min.code 2 (some .int), Cond.methodLink RX6 116 yX6_giveLook, Cond.instanceMethod yX6_giveLook, Cond.selects RX6 yX6_giveLook yX6_giveLook, Cond.code yX6_giveLook cX6_giveLook 3 none, Cond.methodLink RX6 109 yX6_look, Cond.instanceMethod yX6_look]
def wsL_law_r17 : List Cond := [Cond.selects RX6 yX6_look yX6_look, Cond.code yX6_look cX6_look 4 none, Cond.methodLink RX6 169 yX0_firstChanged, Cond.instanceMethod yX0_firstChanged, Cond.selects RX0 yX0_firstChanged yX0_firstChanged, Cond.code yX0_firstChanged cX0_firstChanged 5 (some .int), Cond.methodLink RX6 173 yX5_writerBelow, Cond.methodLink RX6 176 yX6_undo, Cond.instanceMethod yX6_undo, Cond.selects RX6 yX6_undo yX6_undo, Cond.code yX6_undo cX6_undo 2 none, Cond.methodLink RX6 179 yX5_doubt, Cond.instanceMethod yX5_doubt, Cond.selects RX5 yX5_doubt yX5_doubt, Cond.code yX5_doubt cX5_doubt 3 none, Cond.methodLink RX6 120 yX6_giveRun, Cond.instanceMethod yX6_giveRun, Cond.selects RX6 yX6_giveRun yX6_giveRun, Cond.code yX6_giveRun cX6_giveRun 3 none, Cond.methodLink RX6 127 yX0_begin, Cond.instanceMethod yX0_begin, Cond.selects RX0 yX0_begin yX0_begin, Cond.code yX0_begin cX0_begin 1 none, Cond.methodLink RX0 66 yJ7_fill_d0a16]
def wsL_law_r18 : List Cond := [Cond.static yJ7_fill_d0a16, Cond.code yJ7_fill_d0a16 cJ7_fill_d0a16 5 none, Cond.methodLink RX6 113 yX6_takeTask, Cond.instanceMethod yX6_takeTask, Cond.selects RX6 yX6_takeTask yX6_takeTask, Cond.code yX6_takeTask cX6_takeTask 3 none, Cond.methodLink RX6 96 yX1_runOneByOne, Cond.instanceMethod yX1_runOneByOne, Cond.selects RX1 yX1_runOneByOne yX1_runOneByOne, Cond.code yX1_runOneByOne cX1_runOneByOne 5 none, Cond.methodLink RX1 40 yX0_begin, Cond.methodLink RX1 43 yX0_isOver, Cond.methodLink RX1 47 yX0_doNext, Cond.methodLink RX1 51 yX5_publish, Cond.methodLink RX6 100 yX1_formGroups, Cond.instanceMethod yX1_formGroups, Cond.selects RX1 yX1_formGroups yX1_formGroups, Cond.code yX1_formGroups cX1_formGroups 2 none, Cond.fieldLink RX1 55 "ParallelUndo$Attempt" "group" "I", Cond.methodLink RX1 58 yX1_joinTouching, Cond.instanceMethod yX1_joinTouching, Cond.selects RX1 yX1_joinTouching yX1_joinTouching, Cond.code yX1_joinTouching cX1_joinTouching 4 none, Cond.methodLink RX1 61 yX0_touched]
def wsL_law_r19 : List Cond := [Cond.instanceMethod yX0_touched, Cond.selects RX0 yX0_touched yX0_touched, Cond.code yX0_touched cX0_touched 2 (some .boolean), Cond.methodLink RX1 65 yX1_joinGroups, Cond.instanceMethod yX1_joinGroups, Cond.selects RX1 yX1_joinGroups yX1_joinGroups, Cond.code yX1_joinGroups cX1_joinGroups 6 none, Cond.methodLink RX1 69 Lib.Math.min.name, Cond.methodLink RX7 74 yX5_valueAfter, Cond.instanceMethod yX5_valueAfter, Cond.selects RX5 yX5_valueAfter yX5_valueAfter, Cond.code yX5_valueAfter cX5_valueAfter 2 (some .long), Cond.methodLink RX5 37 yX5_writerBelow, Cond.methodLink RX5 41 yX5_valueOf, Cond.methodLink RL 43 yX8_run, Cond.instanceMethod yX8_run, Cond.selects RX8 yX8_run yX8_run, Cond.code yX8_run cX8_run 4 (some .int), Cond.fieldLink RX8 180 "ParallelUndoModel" "ran" "I", Cond.fieldLink RX8 183 "ParallelUndoModel" "turns" "I", Cond.fieldLink RX8 186 "ParallelUndoModel" "fell" "Z", Cond.fieldLink RX8 189 "ParallelUndoModel" "looks" "I", Cond.fieldLink RX8 192 "ParallelUndoModel" "undone" "I", Cond.fieldLink RX8 195 "ParallelUndoModel" "givenUp" "I"]
def wsL_law_r20 : List Cond := [Cond.fieldLink RX8 177 "ParallelUndoModel" "conflictCount" "I", Cond.fieldLink RX8 174 "ParallelUndoModel" "allActs" "I", Cond.fieldLink RX8 198 "ParallelUndoModel" "nextRun" "I", Cond.fieldLink RX8 201 "ParallelUndoModel" "nextLook" "I", Cond.constant RX8 208 (1103515245), Cond.methodLink RX8 204 yX8_isDone, Cond.instanceMethod yX8_isDone, Cond.selects RX8 yX8_isDone yX8_isDone, Cond.code yX8_isDone cX8_isDone 4 (some .boolean), Cond.methodLink RX8 209 yX8_step, Cond.instanceMethod yX8_step, Cond.selects RX8 yX8_step yX8_step, Cond.code yX8_step cX8_step 3 none, Cond.methodLink RX8 219 yX8_runStep, Cond.instanceMethod yX8_runStep, Cond.selects RX8 yX8_runStep yX8_runStep, Cond.code yX8_runStep cX8_runStep 4 none, Cond.methodLink RX8 234 yX8_isOver, Cond.instanceMethod yX8_isOver, Cond.selects RX8 yX8_isOver yX8_isOver, Cond.code yX8_isOver cX8_isOver 2 (some .boolean), Cond.methodLink RX8 237 yX8_doAct, Cond.instanceMethod yX8_doAct, Cond.selects RX8 yX8_doAct yX8_doAct]
def wsL_law_r21 : List Cond := [Cond.code yX8_doAct cX8_doAct 8 (some .int), Cond.fieldLink RX8 156 "ParallelUndoModel" "seenPerhaps" "Z", Cond.fieldLink RX8 150 "ParallelUndoModel" "seenCall" "I", Cond.fieldLink RX8 153 "ParallelUndoModel" "seenRun" "I", Cond.fieldLink RX8 160 "ParallelUndoModel" "seenValue" "J", Cond.methodLink RX8 166 yX8_leafOf, Cond.static yX8_leafOf, Cond.code yX8_leafOf cX8_leafOf 3 (some .int), Cond.constantLong RX8 164 (32), Cond.methodLink RX8 170 yX8_see, Cond.instanceMethod yX8_see, Cond.selects RX8 yX8_see yX8_see, Cond.code yX8_see cX8_see 5 none, Cond.methodLink RX8 241 yX8_conflict0, Cond.instanceMethod yX8_conflict0, Cond.selects RX8 yX8_conflict0 yX8_conflict0, Cond.code yX8_conflict0 cX8_conflict0 3 none, Cond.methodLink RX8 244 yX8_ends, Cond.instanceMethod yX8_ends, Cond.selects RX8 yX8_ends yX8_ends, Cond.code yX8_ends cX8_ends 6 none, Cond.methodLink RX8 225 yX8_toLook, Cond.instanceMethod yX8_toLook, Cond.selects RX8 yX8_toLook yX8_toLook]
def wsL_law_r22 : List Cond := [Cond.code yX8_toLook cX8_toLook 3 none, Cond.methodLink RX8 222 yX8_lookStep, Cond.instanceMethod yX8_lookStep, Cond.selects RX8 yX8_lookStep yX8_lookStep, Cond.code yX8_lookStep cX8_lookStep 5 none, Cond.methodLink RX8 228 yX8_toRun, Cond.instanceMethod yX8_toRun, Cond.selects RX8 yX8_toRun yX8_toRun, Cond.code yX8_toRun cX8_toRun 3 none, Cond.methodLink RX8 231 yX8_begin, Cond.instanceMethod yX8_begin, Cond.selects RX8 yX8_begin yX8_begin, Cond.code yX8_begin cX8_begin 3 none, Cond.methodLink RX8 213 yX8_allInOrder, Cond.instanceMethod yX8_allInOrder, Cond.selects RX8 yX8_allInOrder yX8_allInOrder, Cond.code yX8_allInOrder cX8_allInOrder 4 none, Cond.methodLink RX8 216 yX8_settle, Cond.instanceMethod yX8_settle, Cond.selects RX8 yX8_settle yX8_settle, Cond.code yX8_settle cX8_settle 6 none, Cond.fieldLink RX8 247 "ParallelUndoModel" "eventAll" "I", Cond.fieldLink RX8 257 "ParallelUndoModel" "groups" "I", Cond.methodLink RX8 250 yX8_touches]
def wsL_law_r23 : List Cond := [Cond.instanceMethod yX8_touches, Cond.selects RX8 yX8_touches yX8_touches, Cond.code yX8_touches cX8_touches 5 (some .boolean), Cond.methodLink RX8 254 yX8_rootOf, Cond.instanceMethod yX8_rootOf, Cond.selects RX8 yX8_rootOf yX8_rootOf, Cond.code yX8_rootOf cX8_rootOf 3 (some .int), Cond.methodLink RL 44 yX7_at, Cond.instanceMethod yX7_at, Cond.selects RX7 yX7_at yX7_at, Cond.code yX7_at cX7_at 2 (some .long), Cond.methodLink RL 48 yX8_at, Cond.instanceMethod yX8_at, Cond.selects RX8 yX8_at yX8_at, Cond.code yX8_at cX8_at 2 (some .long), Cond.methodLink RL 49 yX7_inOrder, Cond.instanceMethod yX7_inOrder, Cond.selects RX7 yX7_inOrder yX7_inOrder, Cond.code yX7_inOrder cX7_inOrder 2 (some .long), Cond.methodLink RX7 83 yX1_open, Cond.methodLink RX7 86 yX1_runOneByOne, Cond.methodLink RL 52 yX8_inOrder, Cond.instanceMethod yX8_inOrder, Cond.selects RX8 yX8_inOrder yX8_inOrder]
def wsL_law_r24 : List Cond := [Cond.code yX8_inOrder cX8_inOrder 10 (some .long), Cond.methodLink RL 53 yX7_events, Cond.instanceMethod yX7_events, Cond.selects RX7 yX7_events yX7_events, Cond.code yX7_events cX7_events 1 (some .int), Cond.methodLink RX7 90 yX1_countEvents, Cond.instanceMethod yX1_countEvents, Cond.selects RX1 yX1_countEvents yX1_countEvents, Cond.code yX1_countEvents cX1_countEvents 3 (some .int), Cond.fieldLink RX1 78 "ParallelUndo$Attempt" "eventCount" "I", Cond.methodLink RL 56 yX8_events, Cond.instanceMethod yX8_events, Cond.selects RX8 yX8_events yX8_events, Cond.code yX8_events cX8_events 1 (some .int), Cond.methodLink RL 57 yX7_event, Cond.instanceMethod yX7_event, Cond.selects RX7 yX7_event yX7_event, Cond.code yX7_event cX7_event 3 (some .long), Cond.methodLink RX7 93 yX1_tellEvent, Cond.instanceMethod yX1_tellEvent, Cond.selects RX1 yX1_tellEvent yX1_tellEvent, Cond.code yX1_tellEvent cX1_tellEvent 6 (some .long), Cond.fieldLink RX1 81 "ParallelUndo$Attempt" "eventValue" "[J", Cond.methodLink RL 61 yX8_event]
def wsL_law_r25 : List Cond := [Cond.instanceMethod yX8_event, Cond.selects RX8 yX8_event yX8_event, Cond.code yX8_event cX8_event 3 (some .long), Cond.methodLink RL 62 yX7_of, Cond.instanceMethod yX7_of, Cond.selects RX7 yX7_of yX7_of, Cond.code yX7_of cX7_of 3 (some .int), Cond.methodLink RX7 97 yX1_tellCall, Cond.instanceMethod yX1_tellCall, Cond.selects RX1 yX1_tellCall yX1_tellCall, Cond.code yX1_tellCall cX1_tellCall 4 (some .int), Cond.fieldLink RX1 85 "ParallelUndo$Attempt" "began" "I", Cond.fieldLink RX1 88 "ParallelUndo$Attempt" "done" "I", Cond.fieldLink RX1 91 "ParallelUndo$Attempt" "failed" "Z", Cond.fieldLink RX1 95 "ParallelUndo$Attempt" "kept" "I", Cond.methodLink RX1 98 yX0_countWritten, Cond.instanceMethod yX0_countWritten, Cond.selects RX0 yX0_countWritten yX0_countWritten, Cond.code yX0_countWritten cX0_countWritten 1 (some .int), Cond.methodLink RX0 78 yJ6_bitCount_0f7a4, Cond.static yJ6_bitCount_0f7a4, Cond.initialized RJ6, Cond.code yJ6_bitCount_0f7a4 cJ6_bitCount_0f7a4 1 (some .int), Cond.constant RJ6 265 (1431655765)]
def wsL_law_r26 : List Cond := [Cond.constant RJ6 266 (858993459), Cond.constant RJ6 267 (252645135), Cond.methodLink RL 65 yX8_of, Cond.instanceMethod yX8_of, Cond.selects RX8 yX8_of yX8_of, Cond.code yX8_of cX8_of 3 (some .int), Cond.methodLink RL 66 yX7_conflicts, Cond.instanceMethod yX7_conflicts, Cond.selects RX7 yX7_conflicts yX7_conflicts, Cond.code yX7_conflicts cX7_conflicts 1 (some .int), Cond.fieldLink RX7 101 "ParallelUndo$Workers" "conflicts" "LParallelUndo$Conflicts;", Cond.fieldLink RX7 105 "ParallelUndo$Conflicts" "count" "I", Cond.methodLink RL 69 yX8_conflicts, Cond.instanceMethod yX8_conflicts, Cond.selects RX8 yX8_conflicts yX8_conflicts, Cond.code yX8_conflicts cX8_conflicts 1 (some .int), Cond.methodLink RL 70 yX7_conflict, Cond.instanceMethod yX7_conflict, Cond.selects RX7 yX7_conflict yX7_conflict, Cond.code yX7_conflict cX7_conflict 3 (some .int), Cond.methodLink RX7 110 yX3_tell, Cond.instanceMethod yX3_tell, Cond.selects RX3 yX3_tell yX3_tell, Cond.code yX3_tell cX3_tell 3 (some .int)]
def wsL_law_r27 : List Cond := [Cond.methodLink RL 73 yX8_conflict, Cond.instanceMethod yX8_conflict, Cond.selects RX8 yX8_conflict yX8_conflict, Cond.code yX8_conflict cX8_conflict 3 (some .int), Cond.methodLink RL 74 yX7_told, Cond.instanceMethod yX7_told, Cond.selects RX7 yX7_told yX7_told, Cond.code yX7_told cX7_told 2 (some .int), Cond.methodLink RX7 113 yX6_tell, Cond.instanceMethod yX6_tell, Cond.selects RX6 yX6_tell yX6_tell, Cond.code yX6_tell cX6_tell 2 (some .int), Cond.methodLink RX6 182 yX1_countActs, Cond.instanceMethod yX1_countActs, Cond.selects RX1 yX1_countActs yX1_countActs, Cond.code yX1_countActs cX1_countActs 3 (some .int), Cond.fieldLink RX1 75 "ParallelUndo$Attempt" "doneInAll" "I", Cond.methodLink RX6 186 yX1_countGroups, Cond.instanceMethod yX1_countGroups, Cond.selects RX1 yX1_countGroups yX1_countGroups, Cond.code yX1_countGroups cX1_countGroups 3 (some .int), Cond.methodLink RL 78 yX8_told, Cond.instanceMethod yX8_told, Cond.selects RX8 yX8_told yX8_told]
def wsL_law_r28 : List Cond := [Cond.code yX8_told cX8_told 2 (some .int)]
def wsL_law : List Cond := (wsL_law_r1 ++ (wsL_law_r2 ++ (wsL_law_r3 ++ (wsL_law_r4 ++ (wsL_law_r5 ++ (wsL_law_r6 ++ (wsL_law_r7 ++ (wsL_law_r8 ++ (wsL_law_r9 ++ (wsL_law_r10 ++ (wsL_law_r11 ++ (wsL_law_r12 ++ (wsL_law_r13 ++ (wsL_law_r14 ++ (wsL_law_r15 ++ (wsL_law_r16 ++ (wsL_law_r17 ++ (wsL_law_r18 ++ (wsL_law_r19 ++ (wsL_law_r20 ++ (wsL_law_r21 ++ (wsL_law_r22 ++ (wsL_law_r23 ++ (wsL_law_r24 ++ (wsL_law_r25 ++ (wsL_law_r26 ++ (wsL_law_r27 ++ wsL_law_r28))))))))))))))))))))))))))) ++ wsX70 ++ wsX80 ++ wsX20 ++ wsX60 ++ wsX10 ++ wsX30 ++ wsX50 ++ wsX00 ++ ([] : List Cond)
abbrev vwCl : List vw_C := [(RX0, TX0, 18), (RX1, TX1, 3), (RX2, TX2, 6), (RX3, TX3, 3), (RX5, TX5, 4), (RX6, TX6, 17), (RX7, TX7, 5), (RX8, TX8, 61)]
end
section
/-! ===== the pure machine: values are ints, longs and numbers of cells; the store is what the cells hold; pm_run is a method's code run over them ===== -/
abbrev pSV : Type := Int32 ⊕ (Int64 ⊕ Nat)
abbrev pST : Type := (Nat → Nat → Int32) × (Nat → Nat → Int64)
abbrev pLS : Type := List (Nat × pSV)
abbrev pRT : Type := pST × Option pSV
abbrev pNX : Type := Nat × (pLS × (List pSV × pST))
abbrev pSH : Type := Nat → Nat ⊕ (Nat × Nat)
abbrev pFN : Type := pST → List pSV → Option pRT
abbrev pCL : Type := Nat → Option (Nat × (Option Nat × pFN))
def pm_v (lay : Nat → Nat) (v : pSV) : Value := match v with
  | .inl x => .int x
  | .inr (.inl x) => .long x
  | .inr (.inr i) => .ref (lay i)
def pm_w (v : pSV) : Nat := match v with
  | .inl _ => 1
  | .inr (.inl _) => 2
  | .inr (.inr _) => 1
/-- the kinds of the fields: 0 int, 1 boolean, 2 long, 3 a final int, d + 4 a cell that is d further on -/
def pm_fk (ci : Nat) : List Nat := match ci with
  | 0 => [3, 0, 0, 0, 1, 0, 0, 0, 5, 6, 0, 0, 0, 7, 8, 9, 10, 11]
  | 1 => [5, 10, 0]
  | 2 => [0, 5, 6, 7, 8, 9]
  | 3 => [0, 5, 6]
  | 4 => [5, 6, 7, 8]
  | 5 => [5, 140, 0, 0, 0, 0, 1, 0, 0, 0, 0, 143, 144, 145, 146, 147, 148]
  | 6 => [5, 6, 12, 157, 0]
  | 7 => [5, 0, 0, 6, 7, 8, 9, 10, 11, 12, 13, 14, 15, 16, 17, 18, 19, 20, 21, 22, 23, 24, 0, 25, 26, 27, 28, 0, 0, 1, 2, 29, 30, 31, 32, 33, 34, 0, 0, 0, 0, 1, 0, 0, 0, 0, 35, 0, 36, 37, 0, 38, 39, 40, 41, 42, 43, 44, 45, 46, 47]
  | _ => []
def pm_fv (lay : Nat → Nat) (σ : pST) (i k q : Nat) : Value := match q with
  | 0 => .int (σ.1 i k)
  | 1 => .int (σ.1 i k)
  | 2 => .long (σ.2 i k)
  | 3 => .int (σ.1 i k)
  | d + 4 => .ref (lay (i + d))
def pm_fs (lay : Nat → Nat) (σ : pST) (i : Nat) : Nat → List Nat → List Value
  | _, [] => []
  | k, q :: l => pm_fv lay σ i k q :: pm_fs lay σ i (k + 1) l
def pm_E (lay : Nat → Nat) (cy : Nat → ClassId) (sh : pSH) (σ : pST) (i : Nat) : va_E := match sh i with
  | .inl ci => .inr (ci, pm_fs lay σ i 0 (pm_fk ci))
  | .inr (0, n) => .inl (cy 0, n, .inl (σ.1 i))
  | .inr (1, n) => .inl (cy 1, n, .inr (.inl (σ.2 i)))
  | .inr (2, n) => .inl (cy 2, n, .inl (σ.1 i))
  | .inr (_, n) => .inl (cy 3, n, .inr (.inr (.inr (.inr (fun j => some (lay (i + 1 + 8 * j)))))))
def pm_W (lay : Nat → Nat) (cy : Nat → ClassId) (sh : pSH) (N : Nat) (σ : pST) : va_W := (List.range N).map (fun i => (lay i, pm_E lay cy sh σ i))
abbrev pm_T (cy : Nat → ClassId) : List (ClassId × FieldType) := [(cy 0, .int), (cy 1, .long), (cy 2, .boolean), (cy 3, .object RX0)]
def pm_ui (I : Nat → Nat → Int32) (i k : Nat) (x : Int32) : Nat → Nat → Int32 := fun a => if a = i then upd (I i) k x else I a
def pm_uj (J : Nat → Nat → Int64) (i k : Nat) (x : Int64) : Nat → Nat → Int64 := fun a => if a = i then vp_updL (J i) k x else J a
-- one step
abbrev pm_go (pc : Nat) (ls : pLS) (st : List pSV) (σ : pST) : Option (pNX ⊕ pRT) := some (.inl (pc, ls, st, σ))
def pm_lk (ls : pLS) (k : Nat) : Option pSV := (ls.find? (fun q => q.1 == k)).map (fun q => q.2)
def pm_ldi (k pc : Nat) (ls : pLS) (st : List pSV) (σ : pST) : Option (pNX ⊕ pRT) := match pm_lk ls k with
  | some (.inl x) => pm_go pc ls (.inl x :: st) σ
  | _ => none
def pm_ldl (k pc : Nat) (ls : pLS) (st : List pSV) (σ : pST) : Option (pNX ⊕ pRT) := match pm_lk ls k with
  | some (.inr (.inl x)) => pm_go pc ls (.inr (.inl x) :: st) σ
  | _ => none
def pm_lda (k pc : Nat) (ls : pLS) (st : List pSV) (σ : pST) : Option (pNX ⊕ pRT) := match pm_lk ls k with
  | some (.inr (.inr x)) => pm_go pc ls (.inr (.inr x) :: st) σ
  | _ => none
def pm_s1 (ls : pLS) (k : Nat) (v : pSV) : pLS := (k, v) :: ls.filter (fun q => !(q.1 == k) && !(q.1 + 1 == k && pm_w q.2 == 2))
def pm_s2 (ls : pLS) (k : Nat) (v : pSV) : pLS := (k, v) :: ls.filter (fun q => !(q.1 == k) && (!(q.1 == k + 1) && !(q.1 + 1 == k && pm_w q.2 == 2)))
def pm_sti (nL k pc : Nat) (ls : pLS) (st : List pSV) (σ : pST) : Option (pNX ⊕ pRT) := match st with
  | .inl x :: r => if k < nL then pm_go pc (pm_s1 ls k (.inl x)) r σ else none
  | _ => none
def pm_sta (nL k pc : Nat) (ls : pLS) (st : List pSV) (σ : pST) : Option (pNX ⊕ pRT) := match st with
  | .inr (.inr x) :: r => if k < nL then pm_go pc (pm_s1 ls k (.inr (.inr x))) r σ else none
  | _ => none
def pm_stl (nL k pc : Nat) (ls : pLS) (st : List pSV) (σ : pST) : Option (pNX ⊕ pRT) := match st with
  | .inr (.inl x) :: r => if k + 1 < nL then pm_go pc (pm_s2 ls k (.inr (.inl x))) r σ else none
  | _ => none
def pm_inc (nL k : Nat) (n : Int) (pc : Nat) (ls : pLS) (st : List pSV) (σ : pST) : Option (pNX ⊕ pRT) := match pm_lk ls k with
  | some (.inl x) => if k < nL then pm_go pc (pm_s1 ls k (.inl (x + Int32.ofInt n))) st σ else none
  | _ => none
def pm_ii (f : Int32 → Int32 → Int32) (pc : Nat) (ls : pLS) (st : List pSV) (σ : pST) : Option (pNX ⊕ pRT) := match st with
  | .inl y :: .inl x :: r => pm_go pc ls (.inl (f x y) :: r) σ
  | _ => none
def pm_ll (f : Int64 → Int64 → Int64) (pc : Nat) (ls : pLS) (st : List pSV) (σ : pST) : Option (pNX ⊕ pRT) := match st with
  | .inr (.inl y) :: .inr (.inl x) :: r => pm_go pc ls (.inr (.inl (f x y)) :: r) σ
  | _ => none
def pm_irem (pc : Nat) (ls : pLS) (st : List pSV) (σ : pST) : Option (pNX ⊕ pRT) := match st with
  | .inl y :: .inl x :: r => if y = 0 then none else pm_go pc ls (.inl (x - x / y * y) :: r) σ
  | _ => none
def pm_lrem (pc : Nat) (ls : pLS) (st : List pSV) (σ : pST) : Option (pNX ⊕ pRT) := match st with
  | .inr (.inl y) :: .inr (.inl x) :: r => if y = 0 then none else pm_go pc ls (.inr (.inl (x - x / y * y)) :: r) σ
  | _ => none
def pm_lcmp (pc : Nat) (ls : pLS) (st : List pSV) (σ : pST) : Option (pNX ⊕ pRT) := match st with
  | .inr (.inl y) :: .inr (.inl x) :: r => pm_go pc ls (.inl (lg_cmp x y) :: r) σ
  | _ => none
def pm_lsh (pc : Nat) (ls : pLS) (st : List pSV) (σ : pST) : Option (pNX ⊕ pRT) := match st with
  | .inl y :: .inr (.inl x) :: r => pm_go pc ls (.inr (.inl (x <<< (y.toInt64 &&& 63))) :: r) σ
  | _ => none
def pm_i2l (pc : Nat) (ls : pLS) (st : List pSV) (σ : pST) : Option (pNX ⊕ pRT) := match st with
  | .inl x :: r => pm_go pc ls (.inr (.inl x.toInt64) :: r) σ
  | _ => none
def pm_l2i (pc : Nat) (ls : pLS) (st : List pSV) (σ : pST) : Option (pNX ⊕ pRT) := match st with
  | .inr (.inl x) :: r => pm_go pc ls (.inl x.toInt32 :: r) σ
  | _ => none
def pm_dup (pc : Nat) (ls : pLS) (st : List pSV) (σ : pST) : Option (pNX ⊕ pRT) := match st with
  | v :: r => if pm_w v = 1 then pm_go pc ls (v :: v :: r) σ else none
  | _ => none
def pm_dup2 (pc : Nat) (ls : pLS) (st : List pSV) (σ : pST) : Option (pNX ⊕ pRT) := match st with
  | v :: u :: r => if pm_w v = 1 ∧ pm_w u = 1 then pm_go pc ls (v :: u :: v :: u :: r) σ else none
  | _ => none
def pm_pop (pc : Nat) (ls : pLS) (st : List pSV) (σ : pST) : Option (pNX ⊕ pRT) := match st with
  | v :: r => if pm_w v = 1 then pm_go pc ls r σ else none
  | _ => none
def pm_j (pc : Nat) (off : Int) (ls : pLS) (st : List pSV) (σ : pST) : Option (pNX ⊕ pRT) := if 0 ≤ (pc : Int) + off then pm_go ((pc : Int) + off).toNat ls st σ else none
def pm_if (f : Int32 → Bool) (off : Int) (pc : Nat) (ls : pLS) (st : List pSV) (σ : pST) : Option (pNX ⊕ pRT) := match st with
  | .inl x :: r => if f x = true then pm_j pc off ls r σ else pm_go (pc + 3) ls r σ
  | _ => none
def pm_ic (f : Int32 → Int32 → Bool) (off : Int) (pc : Nat) (ls : pLS) (st : List pSV) (σ : pST) : Option (pNX ⊕ pRT) := match st with
  | .inl y :: .inl x :: r => if f x y = true then pm_j pc off ls r σ else pm_go (pc + 3) ls r σ
  | _ => none
def pm_tsw (dflt lo hi : Int) (offs : Array Int) (pc : Nat) (ls : pLS) (st : List pSV) (σ : pST) : Option (pNX ⊕ pRT) := match st with
  | .inl x :: r => if x.toInt < lo ∨ hi < x.toInt then pm_j pc dflt ls r σ else (match offs[(x.toInt - lo).toNat]? with
    | some off => pm_j pc off ls r σ
    | none => none)
  | _ => none
def pm_lsw (dflt : Int) (ps : Array (Int × Int)) (pc : Nat) (ls : pLS) (st : List pSV) (σ : pST) : Option (pNX ⊕ pRT) := match st with
  | .inl x :: r => if (ps.toList.zip (ps.toList.drop 1)).all (fun (a, next) => a.1 < next.1) = true then pm_j pc (Op.lookupswitch.offset ps.toList dflt x.toInt) ls r σ else none
  | _ => none
def pm_gf (sh : pSH) (q : Option (Nat × Nat)) (pc : Nat) (ls : pLS) (st : List pSV) (σ : pST) : Option (pNX ⊕ pRT) := match q, st with
  | some (ci, k), .inr (.inr i) :: r => if sh i = .inl ci then (match (pm_fk ci)[k]? with
    | some 0 => pm_go pc ls (.inl (σ.1 i k) :: r) σ
    | some 1 => pm_go pc ls (.inl (σ.1 i k) :: r) σ
    | some 2 => pm_go pc ls (.inr (.inl (σ.2 i k)) :: r) σ
    | some 3 => pm_go pc ls (.inl (σ.1 i k) :: r) σ
    | some (d + 4) => pm_go pc ls (.inr (.inr (i + d)) :: r) σ
    | none => none) else none
  | _, _ => none
def pm_pf (sh : pSH) (q : Option (Nat × Nat)) (pc : Nat) (ls : pLS) (st : List pSV) (σ : pST) : Option (pNX ⊕ pRT) := match q, st with
  | some (ci, k), .inl x :: .inr (.inr i) :: r => if sh i = .inl ci then (match (pm_fk ci)[k]? with
    | some 0 => pm_go pc ls r (pm_ui σ.1 i k x, σ.2)
    | some 1 => if x = 0 ∨ x = 1 then pm_go pc ls r (pm_ui σ.1 i k x, σ.2) else none
    | _ => none) else none
  | some (ci, k), .inr (.inl x) :: .inr (.inr i) :: r => if sh i = .inl ci then (match (pm_fk ci)[k]? with
    | some 2 => pm_go pc ls r (σ.1, pm_uj σ.2 i k x)
    | _ => none) else none
  | _, _ => none
def pm_ial (sh : pSH) (pc : Nat) (ls : pLS) (st : List pSV) (σ : pST) : Option (pNX ⊕ pRT) := match st with
  | .inl j :: .inr (.inr i) :: r => (match sh i with
    | .inr (0, n) => if j < 0 ∨ n ≤ j.toNatClampNeg then none else pm_go pc ls (.inl (σ.1 i j.toNatClampNeg) :: r) σ
    | _ => none)
  | _ => none
def pm_zal (sh : pSH) (pc : Nat) (ls : pLS) (st : List pSV) (σ : pST) : Option (pNX ⊕ pRT) := match st with
  | .inl j :: .inr (.inr i) :: r => (match sh i with
    | .inr (2, n) => if j < 0 ∨ n ≤ j.toNatClampNeg then none else pm_go pc ls (.inl (σ.1 i j.toNatClampNeg) :: r) σ
    | _ => none)
  | _ => none
def pm_lal (sh : pSH) (pc : Nat) (ls : pLS) (st : List pSV) (σ : pST) : Option (pNX ⊕ pRT) := match st with
  | .inl j :: .inr (.inr i) :: r => (match sh i with
    | .inr (1, n) => if j < 0 ∨ n ≤ j.toNatClampNeg then none else pm_go pc ls (.inr (.inl (σ.2 i j.toNatClampNeg)) :: r) σ
    | _ => none)
  | _ => none
def pm_aal (sh : pSH) (pc : Nat) (ls : pLS) (st : List pSV) (σ : pST) : Option (pNX ⊕ pRT) := match st with
  | .inl j :: .inr (.inr i) :: r => (match sh i with
    | .inr (3, n) => if j < 0 ∨ n ≤ j.toNatClampNeg then none else pm_go pc ls (.inr (.inr (i + 1 + 8 * j.toNatClampNeg)) :: r) σ
    | _ => none)
  | _ => none
def pm_ias (sh : pSH) (pc : Nat) (ls : pLS) (st : List pSV) (σ : pST) : Option (pNX ⊕ pRT) := match st with
  | .inl x :: .inl j :: .inr (.inr i) :: r => (match sh i with
    | .inr (0, n) => if j < 0 ∨ n ≤ j.toNatClampNeg then none else pm_go pc ls r (pm_ui σ.1 i j.toNatClampNeg x, σ.2)
    | _ => none)
  | _ => none
def pm_zas (sh : pSH) (pc : Nat) (ls : pLS) (st : List pSV) (σ : pST) : Option (pNX ⊕ pRT) := match st with
  | .inl x :: .inl j :: .inr (.inr i) :: r => (match sh i with
    | .inr (2, n) => if j < 0 ∨ n ≤ j.toNatClampNeg then none else if x = 0 ∨ x = 1 then pm_go pc ls r (pm_ui σ.1 i j.toNatClampNeg x, σ.2) else none
    | _ => none)
  | _ => none
def pm_las (sh : pSH) (pc : Nat) (ls : pLS) (st : List pSV) (σ : pST) : Option (pNX ⊕ pRT) := match st with
  | .inr (.inl x) :: .inl j :: .inr (.inr i) :: r => (match sh i with
    | .inr (1, n) => if j < 0 ∨ n ≤ j.toNatClampNeg then none else pm_go pc ls r (σ.1, pm_uj σ.2 i j.toNatClampNeg x)
    | _ => none)
  | _ => none
def pm_al (sh : pSH) (pc : Nat) (ls : pLS) (st : List pSV) (σ : pST) : Option (pNX ⊕ pRT) := match st with
  | .inr (.inr i) :: r => (match sh i with
    | .inr (0, n) => pm_go pc ls (.inl (Int32.ofNat n) :: r) σ
    | .inr (1, n) => pm_go pc ls (.inl (Int32.ofNat n) :: r) σ
    | _ => none)
  | _ => none
def pm_cs (st : List pSV) : Nat := (st.map pm_w).sum
def pm_rc (sh : pSH) (rc : Option Nat) (vs : List pSV) : Prop := match rc with
  | none => True
  | some ci => ∃ i, vs.head? = some (.inr (.inr i)) ∧ sh i = .inl ci
def pm_call (q : Option (Nat × (Option Nat × pFN))) (st : Bool) (pc : Nat) (ls : pLS) (stk : List pSV) (σ : pST) : Option (pNX ⊕ pRT) := match q with
  | some (a, rc, f) => if a ≤ stk.length ∧ pm_cs (stk.drop a) ≤ 8 ∧ rc.isNone = st then (match f σ (stk.take a).reverse with
    | some (σ', r) => pm_go (pc + 3) ls (r.toList ++ stk.drop a) σ'
    | none => none) else none
  | none => none
def pm_ret (rt : Nat) (k : Nat) (st : List pSV) (σ : pST) : Option (pNX ⊕ pRT) := match rt, k, st with
  | 0, 0, [] => some (.inr (σ, none))
  | 1, 1, [.inl x] => some (.inr (σ, some (.inl x)))
  | 2, 1, [.inl x] => if x = 0 ∨ x = 1 then some (.inr (σ, some (.inl x))) else none
  | 3, 2, [.inr (.inl x)] => some (.inr (σ, some (.inr (.inl x))))
  | _, _, _ => none
def pm_ldc (v : Option (Int32 ⊕ Int64)) (pc : Nat) (ls : pLS) (st : List pSV) (σ : pST) : Option (pNX ⊕ pRT) := match v with
  | some (.inl x) => pm_go pc ls (.inl x :: st) σ
  | _ => none
def pm_ldc2 (v : Option (Int32 ⊕ Int64)) (pc : Nat) (ls : pLS) (st : List pSV) (σ : pST) : Option (pNX ⊕ pRT) := match v with
  | some (.inr x) => pm_go pc ls (.inr (.inl x) :: st) σ
  | _ => none
def pm_ins (sh : pSH) (fld : Nat → Option (Nat × Nat)) (cst : Nat → Option (Int32 ⊕ Int64)) (cal : pCL) (nL rt : Nat) (ins : Instr) (pc : Nat) (ls : pLS) (st : List pSV) (σ : pST) : Option (pNX ⊕ pRT) := match ins with
  | .iconst n => pm_go (pc + 1) ls (.inl (Int32.ofInt n) :: st) σ
  | .bipush n => pm_go (pc + 2) ls (.inl (Int8.ofInt n).toInt32 :: st) σ
  | .sipush n => pm_go (pc + 3) ls (.inl (Int16.ofInt n).toInt32 :: st) σ
  | .lconst n => pm_go (pc + 1) ls (.inr (.inl (Int64.ofNat (n : Nat))) :: st) σ
  | .ldc k => pm_ldc (cst k) (pc + 2) ls st σ
  | .ldc_w k => pm_ldc (cst k) (pc + 3) ls st σ
  | .ldc2_w k => pm_ldc2 (cst k) (pc + 3) ls st σ
  | .iload_n k => pm_ldi k (pc + 1) ls st σ
  | .iload k => pm_ldi k (pc + 2) ls st σ
  | .lload_n k => pm_ldl k (pc + 1) ls st σ
  | .lload k => pm_ldl k (pc + 2) ls st σ
  | .aload_n k => pm_lda k (pc + 1) ls st σ
  | .aload k => pm_lda k (pc + 2) ls st σ
  | .istore_n k => pm_sti nL k (pc + 1) ls st σ
  | .istore k => pm_sti nL k (pc + 2) ls st σ
  | .astore_n k => pm_sta nL k (pc + 1) ls st σ
  | .astore k => pm_sta nL k (pc + 2) ls st σ
  | .lstore k => pm_stl nL k (pc + 2) ls st σ
  | .iinc k n => pm_inc nL k n (pc + 3) ls st σ
  | .iadd => pm_ii (fun x y => x + y) (pc + 1) ls st σ
  | .isub => pm_ii (fun x y => x - y) (pc + 1) ls st σ
  | .imul => pm_ii (fun x y => x * y) (pc + 1) ls st σ
  | .iand => pm_ii (fun x y => x &&& y) (pc + 1) ls st σ
  | .ior => pm_ii (fun x y => x ||| y) (pc + 1) ls st σ
  | .ishl => pm_ii (fun x y => x <<< (y &&& 31)) (pc + 1) ls st σ
  | .iushr => pm_ii (fun x y => (x.toUInt32 >>> (y.toUInt32 &&& Int32.toUInt32 31)).toInt32) (pc + 1) ls st σ
  | .irem => pm_irem (pc + 1) ls st σ
  | .ladd => pm_ll (fun x y => x + y) (pc + 1) ls st σ
  | .lsub => pm_ll (fun x y => x - y) (pc + 1) ls st σ
  | .lmul => pm_ll (fun x y => x * y) (pc + 1) ls st σ
  | .land => pm_ll (fun x y => x &&& y) (pc + 1) ls st σ
  | .lor => pm_ll (fun x y => x ||| y) (pc + 1) ls st σ
  | .lrem => pm_lrem (pc + 1) ls st σ
  | .lcmp => pm_lcmp (pc + 1) ls st σ
  | .lshl => pm_lsh (pc + 1) ls st σ
  | .i2l => pm_i2l (pc + 1) ls st σ
  | .l2i => pm_l2i (pc + 1) ls st σ
  | .dup => pm_dup (pc + 1) ls st σ
  | .dup2 => pm_dup2 (pc + 1) ls st σ
  | .pop => pm_pop (pc + 1) ls st σ
  | .goto off => pm_j pc off ls st σ
  | .ifCond .eq off => pm_if (fun x => decide (x = 0)) off pc ls st σ
  | .ifCond .ne off => pm_if (fun x => decide (¬ x = 0)) off pc ls st σ
  | .ifCond .lt off => pm_if (fun x => decide (x < 0)) off pc ls st σ
  | .ifCond .ge off => pm_if (fun x => decide (0 ≤ x)) off pc ls st σ
  | .ifCond .gt off => pm_if (fun x => decide (0 < x)) off pc ls st σ
  | .ifCond .le off => pm_if (fun x => decide (x ≤ 0)) off pc ls st σ
  | .if_icmp .eq off => pm_ic (fun x y => decide (x = y)) off pc ls st σ
  | .if_icmp .ne off => pm_ic (fun x y => decide (¬ x = y)) off pc ls st σ
  | .if_icmp .lt off => pm_ic (fun x y => decide (x < y)) off pc ls st σ
  | .if_icmp .ge off => pm_ic (fun x y => decide (y ≤ x)) off pc ls st σ
  | .if_icmp .gt off => pm_ic (fun x y => decide (y < x)) off pc ls st σ
  | .if_icmp .le off => pm_ic (fun x y => decide (x ≤ y)) off pc ls st σ
  | .tableswitch dflt lo hi offs => pm_tsw dflt lo hi offs pc ls st σ
  | .lookupswitch dflt ps => pm_lsw dflt ps pc ls st σ
  | .getfield k => pm_gf sh (fld k) (pc + 3) ls st σ
  | .putfield k => pm_pf sh (fld k) (pc + 3) ls st σ
  | .iaload => pm_ial sh (pc + 1) ls st σ
  | .baload => pm_zal sh (pc + 1) ls st σ
  | .laload => pm_lal sh (pc + 1) ls st σ
  | .aaload => pm_aal sh (pc + 1) ls st σ
  | .iastore => pm_ias sh (pc + 1) ls st σ
  | .bastore => pm_zas sh (pc + 1) ls st σ
  | .lastore => pm_las sh (pc + 1) ls st σ
  | .arraylength => pm_al sh (pc + 1) ls st σ
  | .invokevirtual k => pm_call (cal k) false pc ls st σ
  | .invokestatic k => pm_call (cal k) true pc ls st σ
  | .ireturn => pm_ret rt 1 st σ
  | .lreturn => pm_ret rt 2 st σ
  | .return_ => pm_ret rt 0 st σ
  | _ => none
/-- how long an instruction is; 0: of any length, or none that the machine runs -/
def pm_len (ins : Instr) : Nat := match ins with
  | .iconst _ => 1 | .bipush _ => 2 | .sipush _ => 3 | .lconst _ => 1 | .ldc _ => 2 | .ldc_w _ => 3 | .ldc2_w _ => 3
  | .iload_n _ => 1 | .iload _ => 2 | .lload_n _ => 1 | .lload _ => 2 | .aload_n _ => 1 | .aload _ => 2
  | .istore_n _ => 1 | .istore _ => 2 | .astore_n _ => 1 | .astore _ => 2 | .lstore _ => 2 | .iinc _ _ => 3
  | .iadd => 1 | .isub => 1 | .imul => 1 | .iand => 1 | .ior => 1 | .ishl => 1 | .iushr => 1 | .irem => 1
  | .ladd => 1 | .lsub => 1 | .lmul => 1 | .land => 1 | .lor => 1 | .lrem => 1 | .lcmp => 1 | .lshl => 1 | .i2l => 1 | .l2i => 1
  | .dup => 1 | .dup2 => 1 | .pop => 1 | .goto _ => 3 | .ifCond _ _ => 3 | .if_icmp _ _ => 3
  | .getfield _ => 3 | .putfield _ => 3 | .iaload => 1 | .baload => 1 | .laload => 1 | .aaload => 1 | .iastore => 1 | .bastore => 1 | .lastore => 1 | .arraylength => 1
  | .invokevirtual _ => 3 | .invokestatic _ => 3 | .ireturn => 1 | .lreturn => 1 | .return_ => 1
  | _ => 0
def pm_run (sh : pSH) (tab : Nat → Option (Instr × Nat)) (fld : Nat → Option (Nat × Nat)) (cst : Nat → Option (Int32 ⊕ Int64)) (cal : pCL) (nL rt : Nat) : Nat → Nat → pLS → List pSV → pST → Option pRT
  | 0, _, _, _, _ => none
  | n + 1, pc, ls, st, σ => match tab pc with
    | none => none
    | some q => match pm_ins sh fld cst cal nL rt q.1 pc ls st σ with
      | some (.inl (pc', ls', st', σ')) => pm_run sh tab fld cst cal nL rt n pc' ls' st' σ'
      | some (.inr r) => some r
      | none => none
end
section
/-! ===== the pure machine is sound: its runs are the machine's ===== -/
theorem pm_W_get {lay : Nat → Nat} {cy : Nat → ClassId} {sh : pSH} {N : Nat} {σ : pST} {i : Nat} (h : i < N) : (pm_W lay cy sh N σ)[i]? = some (lay i, pm_E lay cy sh σ i) := by
  simp [pm_W, List.getElem?_map, List.getElem?_range h]
theorem pm_W_len {lay : Nat → Nat} {cy : Nat → ClassId} {sh : pSH} {N : Nat} {σ : pST} : (pm_W lay cy sh N σ).length = N := by simp [pm_W]
theorem pm_fs_congr {lay : Nat → Nat} {σ σ' : pST} {i : Nat} (h1 : σ'.1 i = σ.1 i) (h2 : σ'.2 i = σ.2 i) : ∀ (l : List Nat) (k : Nat), pm_fs lay σ' i k l = pm_fs lay σ i k l
  | [], _ => rfl
  | q :: l, k => by
    simp only [pm_fs]
    rw [pm_fs_congr h1 h2 l (k + 1)]
    congr 1
    unfold pm_fv
    rw [h1, h2]
theorem pm_E_congr {lay : Nat → Nat} {cy : Nat → ClassId} {sh : pSH} {σ σ' : pST} {i : Nat} (h1 : σ'.1 i = σ.1 i) (h2 : σ'.2 i = σ.2 i) : pm_E lay cy sh σ' i = pm_E lay cy sh σ i := by
  unfold pm_E
  rw [h1, h2]
  split
  · rw [pm_fs_congr h1 h2]
  all_goals rfl
theorem pm_W_set {lay : Nat → Nat} {cy : Nat → ClassId} {sh : pSH} {N : Nat} {σ σ' : pST} {i : Nat} (hi : i < N) (h : ∀ j, j ≠ i → σ'.1 j = σ.1 j ∧ σ'.2 j = σ.2 j) {e : va_E} (he : e = pm_E lay cy sh σ' i) : (pm_W lay cy sh N σ).set i (lay i, e) = pm_W lay cy sh N σ' := by
  subst he
  apply List.ext_getElem?
  intro k
  by_cases hk : k = i
  · subst hk
    rw [List.getElem?_set_self (by rw [pm_W_len]; exact hi), pm_W_get hi]
  · rw [List.getElem?_set_ne (Ne.symm hk)]
    by_cases hkN : k < N
    · rw [pm_W_get hkN, pm_W_get hkN, pm_E_congr (h k hk).1 (h k hk).2]
    · rw [List.getElem?_eq_none (by rw [pm_W_len]; omega), List.getElem?_eq_none (by rw [pm_W_len]; omega)]
theorem pm_fs_get {lay : Nat → Nat} {σ : pST} {i : Nat} : ∀ (l : List Nat) (k0 k q : Nat), l[k]? = some q → (pm_fs lay σ i k0 l)[k]? = some (pm_fv lay σ i (k0 + k) q)
  | [], _, _, _, h => by simp at h
  | a :: l, k0, 0, q, h => by
    simp at h
    subst h
    simp [pm_fs]
  | a :: l, k0, k + 1, q, h => by
    simp only [List.getElem?_cons_succ] at h
    simp only [pm_fs, List.getElem?_cons_succ]
    rw [pm_fs_get l (k0 + 1) k q h]
    congr 2
    omega
theorem pm_fs_len {lay : Nat → Nat} {σ : pST} {i : Nat} : ∀ (l : List Nat) (k0 : Nat), (pm_fs lay σ i k0 l).length = l.length
  | [], _ => rfl
  | a :: l, k0 => by simp [pm_fs, pm_fs_len l (k0 + 1)]
theorem pm_fv_congr {lay : Nat → Nat} {σ σ' : pST} {i k q : Nat} (h1 : σ'.1 i k = σ.1 i k) (h2 : σ'.2 i k = σ.2 i k) : pm_fv lay σ' i k q = pm_fv lay σ i k q := by
  unfold pm_fv
  rw [h1, h2]
theorem pm_fs_same {lay : Nat → Nat} {σ σ' : pST} {i : Nat} : ∀ (l : List Nat) (k0 : Nat), (∀ k, k0 ≤ k → σ'.1 i k = σ.1 i k ∧ σ'.2 i k = σ.2 i k) → pm_fs lay σ' i k0 l = pm_fs lay σ i k0 l
  | [], _, _ => rfl
  | a :: l, k0, h => by
    simp only [pm_fs]
    rw [pm_fv_congr (h k0 (Nat.le_refl _)).1 (h k0 (Nat.le_refl _)).2, pm_fs_same l (k0 + 1) (fun k hk => h k (by omega))]
theorem pm_fs_set {lay : Nat → Nat} {σ σ' : pST} {i : Nat} {v : Value} : ∀ (l : List Nat) (k0 k q : Nat), l[k]? = some q → pm_fv lay σ' i (k0 + k) q = v → (∀ k', k' ≠ k0 + k → σ'.1 i k' = σ.1 i k' ∧ σ'.2 i k' = σ.2 i k') → (pm_fs lay σ i k0 l).set k v = pm_fs lay σ' i k0 l
  | [], _, _, _, h, _, _ => by simp at h
  | a :: l, k0, 0, q, h, hv, ho => by
    simp at h
    subst h
    simp only [pm_fs, List.set_cons_zero]
    rw [pm_fs_same l (k0 + 1) (fun k' hk => ho k' (by omega)), ← hv]
    rfl
  | a :: l, k0, k + 1, q, h, hv, ho => by
    simp only [List.getElem?_cons_succ] at h
    simp only [pm_fs, List.set_cons_succ]
    rw [pm_fv_congr (ho k0 (by omega)).1 (ho k0 (by omega)).2, pm_fs_set l (k0 + 1) k q h (by rw [← hv]; congr 1; omega) (fun k' hk => ho k' (by omega))]
theorem pm_D {A : Nat → Prop} {lay : Nat → Nat} {cy : Nat → ClassId} {sh : pSH} {N : Nat} {σ : pST} (σ' : pST) (h : va_D A (pm_W lay cy sh N σ)) : va_D A (pm_W lay cy sh N σ') := by
  have key : ∀ (k : Nat) (q : Nat × va_E), (pm_W lay cy sh N σ')[k]? = some q → ∃ q0 : Nat × va_E, (pm_W lay cy sh N σ)[k]? = some q0 ∧ q0.1 = q.1 := by
    intro k q hk
    have hkN : k < N := by
      have := (List.getElem?_eq_some_iff.mp hk).1
      rw [pm_W_len] at this
      exact this
    rw [pm_W_get hkN] at hk
    cases hk
    exact ⟨_, pm_W_get hkN, rfl⟩
  refine ⟨fun i j a b hi hj hab => ?_, fun k q hk => ?_⟩
  · obtain ⟨a0, h1, h2⟩ := key i a hi
    obtain ⟨b0, h3, h4⟩ := key j b hj
    exact h.1 i j a0 b0 h1 h3 (h2.trans (hab.trans h4.symm))
  · obtain ⟨q0, h1, h2⟩ := key k q hk
    rw [← h2]
    exact h.2 k q0 h1
/-- what a field's row in the tables of a class must be: its kind in pm_fk -/
def pm_kd (q : Nat) (t : String × String × String × Bool) : Bool := match q with
  | 0 => !t.2.2.2 && decide (parseFieldDescriptor t.2.2.1 = some .int)
  | 1 => !t.2.2.2 && decide (parseFieldDescriptor t.2.2.1 = some .boolean)
  | 2 => !t.2.2.2 && decide (parseFieldDescriptor t.2.2.1 = some .long)
  | _ => true
def pm_cls (ci : Nat) (q : vw_C) : Prop := (pm_fk ci).length = q.2.2 ∧ (∃ ty : Nat → FieldType, ∀ k, k < q.2.2 → parseFieldDescriptor (q.2.1 k).2.2.1 = some (ty k)) ∧ (∀ a, a < q.2.2 → ∀ b, b < q.2.2 → a ≠ b → (q.2.1 a).2.1 ≠ (q.2.1 b).2.1) ∧ ∀ k, k < q.2.2 → pm_kd ((pm_fk ci).getD k 9) (q.2.1 k) = true
theorem pm_cls_0 : pm_cls 0 (RX0, TX0, 18) := ⟨rfl, ⟨tyX0, tyX0_ok⟩, nmX0, by decide +kernel⟩
theorem pm_cls_1 : pm_cls 1 (RX1, TX1, 3) := ⟨rfl, ⟨tyX1, tyX1_ok⟩, nmX1, by decide +kernel⟩
theorem pm_cls_2 : pm_cls 2 (RX2, TX2, 6) := ⟨rfl, ⟨tyX2, tyX2_ok⟩, nmX2, by decide +kernel⟩
theorem pm_cls_3 : pm_cls 3 (RX3, TX3, 3) := ⟨rfl, ⟨tyX3, tyX3_ok⟩, nmX3, by decide +kernel⟩
theorem pm_cls_4 : pm_cls 4 (RX5, TX5, 4) := ⟨rfl, ⟨tyX5, tyX5_ok⟩, nmX5, by decide +kernel⟩
theorem pm_cls_5 : pm_cls 5 (RX6, TX6, 17) := ⟨rfl, ⟨tyX6, tyX6_ok⟩, nmX6, by decide +kernel⟩
theorem pm_cls_6 : pm_cls 6 (RX7, TX7, 5) := ⟨rfl, ⟨tyX7, tyX7_ok⟩, nmX7, by decide +kernel⟩
theorem pm_cls_7 : pm_cls 7 (RX8, TX8, 61) := ⟨rfl, ⟨tyX8, tyX8_ok⟩, nmX8, by decide +kernel⟩
theorem pm_cl : ∀ (ci : Nat) (q : vw_C), vwCl[ci]? = some q → pm_cls ci q := by
  intro ci q h
  rcases ci with _ | _ | _ | _ | _ | _ | _ | _ | ci
  · cases h; exact pm_cls_0
  · cases h; exact pm_cls_1
  · cases h; exact pm_cls_2
  · cases h; exact pm_cls_3
  · cases h; exact pm_cls_4
  · cases h; exact pm_cls_5
  · cases h; exact pm_cls_6
  · cases h; exact pm_cls_7
  · simp at h
def pm_Fok (Ts : List Cond) (own : String) (idx ci k : Nat) : Prop := ∃ q : vw_C, vwCl[ci]? = some q ∧ k < q.2.2 ∧ Cond.fieldLink own idx (q.2.1 k).1 (q.2.1 k).2.1 (q.2.1 k).2.2.1 ∈ Ts ∧ ∀ w ∈ u_ws q.1 q.2.1 q.2.2, w ∈ Ts
def pm_rt (rt : Nat) : Option FieldType := match rt with
  | 0 => none
  | 1 => some .int
  | 2 => some .boolean
  | _ => some .long
def pm_Q (lay : Nat → Nat) (cy : Nat → ClassId) (sh : pSH) (N : Nat) (D : va_G) (A : Nat → Prop) (σ' : pST) (r : Option pSV) : Array Value → State → Outcome → State → Prop := fun _ st oc t => (oc = .returned (r.map (pm_v lay)) ∧ va_P D vwCl (pm_W lay cy sh N σ') t.heap) ∧ va_F A st t
theorem pm_lk_mem {ls : pLS} {k : Nat} {v : pSV} (h : pm_lk ls k = some v) : (k, v) ∈ ls := by
  unfold pm_lk at h
  cases hf : ls.find? (fun q => q.1 == k) with
  | none => rw [hf] at h; cases h
  | some q =>
    rw [hf] at h
    have h1 := List.mem_of_find?_eq_some hf
    have h2 := List.find?_some hf
    have h3 : q.1 = k := by simpa using h2
    have h4 : q.2 = v := by simpa using h
    rw [← h3, ← h4]
    exact h1
abbrev pm_L (lay : Nat → Nat) (ls : pLS) : List (Nat × Value) := ls.map (fun q => (q.1, pm_v lay q.2))
theorem pm_get {lay : Nat → Nat} {ls : pLS} {nL k : Nat} {v : pSV} {lsA : Array Slot} (hl : lv_has lsA nL (pm_L lay ls)) (h : pm_lk ls k = some v) : lsA[k]? = some (.val (pm_v lay v)) := hl.2.2 (k, pm_v lay v) (List.mem_map.mpr ⟨(k, v), pm_lk_mem h, rfl⟩)
theorem pm_cat (lay : Nat → Nat) (v : pSV) : (pm_v lay v).category = pm_w v := by
  rcases v with x | x | x <;> rfl
theorem pm_s1_L {lay : Nat → Nat} {ls : pLS} {k : Nat} {v : pSV} : (k, pm_v lay v) :: (pm_L lay ls).filter (fun q => !(q.1 == k) && !(q.1 + 1 == k && q.2.category == 2)) = pm_L lay (pm_s1 ls k v) := by
  simp only [pm_s1, pm_L, List.map_cons, List.filter_map]
  congr 3
  funext q
  simp [pm_cat]
theorem pm_s2_L {lay : Nat → Nat} {ls : pLS} {k : Nat} {v : pSV} : (k, pm_v lay v) :: (pm_L lay ls).filter (fun q => !(q.1 == k) && (!(q.1 == k + 1) && !(q.1 + 1 == k && q.2.category == 2))) = pm_L lay (pm_s2 ls k v) := by
  simp only [pm_s2, pm_L, List.map_cons, List.filter_map]
  congr 3
  funext q
  simp [pm_cat]
theorem pm_lt {sh : pSH} {N i : Nat} (hN : ∀ i, N ≤ i → sh i = .inr (9, 0)) (h : sh i ≠ .inr (9, 0)) : i < N := by
  rcases Nat.lt_or_ge i N with q | q
  · exact q
  · exact absurd (hN i q) h
end
section
/-! ===== each instruction of the pure machine by its row of the kit ===== -/
section PMI
variable {p : Program} {l : Launch} {e : Env} {R : Room} {s : State} {m : MethodId} {args : Array Value} {below : List Frame} {meth : Method} {c : Code} {Q : State → Prop}
variable {D : va_G} {lay : Nat → Nat} {cy : Nat → ClassId} {sh : pSH} {N nL : Nat} {A : Nat → Prop} {cc : ByteArray} {pc : Nat} {ls : pLS} {st : List pSV} {σ : pST} {x : pNX}
def pm_G (p : Program) (l : Launch) (e : Env) (R : Room) (s : State) (m : MethodId) (args : Array Value) (below : List Frame) (meth : Method) (c : Code) (Q : State → Prop) (D : va_G) (lay : Nat → Nat) (cy : Nat → ClassId) (sh : pSH) (N nL : Nat) (A : Nat → Prop) (x : pNX) : Prop := ∀ (H : Heap) (locs : List Loc) (lsA : Array Slot), lv_has lsA nL (pm_L lay x.2.1) → va_P D vwCl (pm_W lay cy sh N x.2.2.2) H → va_D A (pm_W lay cy sh N x.2.2.2) → va_S A s.heap H locs → W p l e R s m args below meth c H locs 0 0 Q (F0 m x.1 lsA (x.2.2.1.map (pm_v lay)))
theorem pi_iconst (hx : p.tables.exec = Jvm.exec) (hb : c.code = cc) {n : Int} (hd : decode cc pc = .ok (.iconst n, 1)) (h : pm_go (pc + 1) ls (.inl (Int32.ofInt n) :: st) σ = some (.inl x)) (K : pm_G p l e R s m args below meth c Q D lay cy sh N nL A x) : pm_G p l e R s m args below meth c Q D lay cy sh N nL A (pc, ls, st, σ) := by
  intro H locs lsA hl hP hD hS
  cases h
  exact lv_iconst hx hb hd rfl (K H locs lsA hl hP hD hS)
theorem pi_bipush (hx : p.tables.exec = Jvm.exec) (hb : c.code = cc) {n : Int} (hd : decode cc pc = .ok (.bipush n, 2)) (h : pm_go (pc + 2) ls (.inl (Int8.ofInt n).toInt32 :: st) σ = some (.inl x)) (K : pm_G p l e R s m args below meth c Q D lay cy sh N nL A x) : pm_G p l e R s m args below meth c Q D lay cy sh N nL A (pc, ls, st, σ) := by
  intro H locs lsA hl hP hD hS
  cases h
  exact lv_bipush hx hb hd rfl (K H locs lsA hl hP hD hS)
theorem pi_sipush (hx : p.tables.exec = Jvm.exec) (hb : c.code = cc) {n : Int} (hd : decode cc pc = .ok (.sipush n, 3)) (h : pm_go (pc + 3) ls (.inl (Int16.ofInt n).toInt32 :: st) σ = some (.inl x)) (K : pm_G p l e R s m args below meth c Q D lay cy sh N nL A x) : pm_G p l e R s m args below meth c Q D lay cy sh N nL A (pc, ls, st, σ) := by
  intro H locs lsA hl hP hD hS
  cases h
  exact lv_sipush hx hb hd rfl (K H locs lsA hl hP hD hS)
theorem pi_lconst (hx : p.tables.exec = Jvm.exec) (hb : c.code = cc) {n : Fin 2} (hd : decode cc pc = .ok (.lconst n, 1)) (h : pm_go (pc + 1) ls (.inr (.inl (Int64.ofNat (n : Nat))) :: st) σ = some (.inl x)) (K : pm_G p l e R s m args below meth c Q D lay cy sh N nL A x) : pm_G p l e R s m args below meth c Q D lay cy sh N nL A (pc, ls, st, σ) := by
  intro H locs lsA hl hP hD hS
  cases h
  exact lv_lconst hx hb hd rfl (K H locs lsA hl hP hD hS)
theorem pi_ldc (hx : p.tables.exec = Jvm.exec) (hb : c.code = cc) {k : Nat} {own : String} {v : Option (Int32 ⊕ Int64)} (hown : s.vm.findClass own = some m.cls) (hc : ∀ y, v = some (.inl y) → (Cond.constant own k y).before args s = true) (hd : decode cc pc = .ok (.ldc k, 2)) (h : pm_ldc v (pc + 2) ls st σ = some (.inl x)) (K : pm_G p l e R s m args below meth c Q D lay cy sh N nL A x) : pm_G p l e R s m args below meth c Q D lay cy sh N nL A (pc, ls, st, σ) := by
  intro H locs lsA hl hP hD hS
  unfold pm_ldc at h
  split at h
  · cases h
    exact lv_ldc hx hb hown (hc _ rfl) hd (K H locs lsA hl hP hD hS)
  · cases h
theorem pi_ldcw (hx : p.tables.exec = Jvm.exec) (hb : c.code = cc) {k : Nat} {own : String} {v : Option (Int32 ⊕ Int64)} (hown : s.vm.findClass own = some m.cls) (hc : ∀ y, v = some (.inl y) → (Cond.constant own k y).before args s = true) (hd : decode cc pc = .ok (.ldc_w k, 3)) (h : pm_ldc v (pc + 3) ls st σ = some (.inl x)) (K : pm_G p l e R s m args below meth c Q D lay cy sh N nL A x) : pm_G p l e R s m args below meth c Q D lay cy sh N nL A (pc, ls, st, σ) := by
  intro H locs lsA hl hP hD hS
  unfold pm_ldc at h
  split at h
  · cases h
    exact lv_ldcw hx hb hown (hc _ rfl) hd (K H locs lsA hl hP hD hS)
  · cases h
theorem pi_ldc2 (hx : p.tables.exec = Jvm.exec) (hb : c.code = cc) {k : Nat} {own : String} {v : Option (Int32 ⊕ Int64)} (hown : s.vm.findClass own = some m.cls) (hc : ∀ y, v = some (.inr y) → (Cond.constantLong own k y).before args s = true) (hd : decode cc pc = .ok (.ldc2_w k, 3)) (h : pm_ldc2 v (pc + 3) ls st σ = some (.inl x)) (K : pm_G p l e R s m args below meth c Q D lay cy sh N nL A x) : pm_G p l e R s m args below meth c Q D lay cy sh N nL A (pc, ls, st, σ) := by
  intro H locs lsA hl hP hD hS
  unfold pm_ldc2 at h
  split at h
  · cases h
    exact lv_ldc2 hx hb hown (hc _ rfl) hd (K H locs lsA hl hP hD hS)
  · cases h
theorem pi_iload_n (hx : p.tables.exec = Jvm.exec) (hb : c.code = cc) {k : Fin 4} (hd : decode cc pc = .ok (.iload_n k, 1)) (h : pm_ldi k (pc + 1) ls st σ = some (.inl x)) (K : pm_G p l e R s m args below meth c Q D lay cy sh N nL A x) : pm_G p l e R s m args below meth c Q D lay cy sh N nL A (pc, ls, st, σ) := by
  intro H locs lsA hl hP hD hS
  unfold pm_ldi at h
  split at h
  · rename_i y hq
    cases h
    exact lv_iload_n hx hb hd rfl (pm_get hl hq) (K H locs lsA hl hP hD hS)
  · cases h
theorem pi_iload (hx : p.tables.exec = Jvm.exec) (hb : c.code = cc) {k : Nat} (hd : decode cc pc = .ok (.iload k, 2)) (h : pm_ldi k (pc + 2) ls st σ = some (.inl x)) (K : pm_G p l e R s m args below meth c Q D lay cy sh N nL A x) : pm_G p l e R s m args below meth c Q D lay cy sh N nL A (pc, ls, st, σ) := by
  intro H locs lsA hl hP hD hS
  unfold pm_ldi at h
  split at h
  · rename_i y hq
    cases h
    exact lv_iload hx hb hd (pm_get hl hq) (K H locs lsA hl hP hD hS)
  · cases h
theorem pi_lload_n (hx : p.tables.exec = Jvm.exec) (hb : c.code = cc) {k : Fin 4} (hd : decode cc pc = .ok (.lload_n k, 1)) (h : pm_ldl k (pc + 1) ls st σ = some (.inl x)) (K : pm_G p l e R s m args below meth c Q D lay cy sh N nL A x) : pm_G p l e R s m args below meth c Q D lay cy sh N nL A (pc, ls, st, σ) := by
  intro H locs lsA hl hP hD hS
  unfold pm_ldl at h
  split at h
  · rename_i y hq
    cases h
    exact lv_lload_n hx hb hd rfl (pm_get hl hq) (K H locs lsA hl hP hD hS)
  · cases h
theorem pi_lload (hx : p.tables.exec = Jvm.exec) (hb : c.code = cc) {k : Nat} (hd : decode cc pc = .ok (.lload k, 2)) (h : pm_ldl k (pc + 2) ls st σ = some (.inl x)) (K : pm_G p l e R s m args below meth c Q D lay cy sh N nL A x) : pm_G p l e R s m args below meth c Q D lay cy sh N nL A (pc, ls, st, σ) := by
  intro H locs lsA hl hP hD hS
  unfold pm_ldl at h
  split at h
  · rename_i y hq
    cases h
    exact lv_lload hx hb hd (pm_get hl hq) (K H locs lsA hl hP hD hS)
  · cases h
theorem pi_aload_n (hx : p.tables.exec = Jvm.exec) (hb : c.code = cc) {k : Fin 4} (hd : decode cc pc = .ok (.aload_n k, 1)) (h : pm_lda k (pc + 1) ls st σ = some (.inl x)) (K : pm_G p l e R s m args below meth c Q D lay cy sh N nL A x) : pm_G p l e R s m args below meth c Q D lay cy sh N nL A (pc, ls, st, σ) := by
  intro H locs lsA hl hP hD hS
  unfold pm_lda at h
  split at h
  · rename_i y hq
    cases h
    exact lv_aload_n hx hb hd rfl (pm_get hl hq) (K H locs lsA hl hP hD hS)
  · cases h
theorem pi_aload (hx : p.tables.exec = Jvm.exec) (hb : c.code = cc) {k : Nat} (hd : decode cc pc = .ok (.aload k, 2)) (h : pm_lda k (pc + 2) ls st σ = some (.inl x)) (K : pm_G p l e R s m args below meth c Q D lay cy sh N nL A x) : pm_G p l e R s m args below meth c Q D lay cy sh N nL A (pc, ls, st, σ) := by
  intro H locs lsA hl hP hD hS
  unfold pm_lda at h
  split at h
  · rename_i y hq
    cases h
    exact lv_aload hx hb hd (pm_get hl hq) (K H locs lsA hl hP hD hS)
  · cases h
theorem pi_istore_n (hx : p.tables.exec = Jvm.exec) (hb : c.code = cc) {k : Fin 4} (hd : decode cc pc = .ok (.istore_n k, 1)) (h : pm_sti nL k (pc + 1) ls st σ = some (.inl x)) (K : pm_G p l e R s m args below meth c Q D lay cy sh N nL A x) : pm_G p l e R s m args below meth c Q D lay cy sh N nL A (pc, ls, st, σ) := by
  intro H locs lsA hl hP hD hS
  unfold pm_sti at h
  split at h
  · split at h
    · rename_i y r hk
      cases h
      exact lv_istore_n hx hb hd rfl hl hk (pm_s1_L (lay := lay) (ls := ls) (k := k) (v := .inl y)) (fun ls2 hl2 => K H locs ls2 hl2 hP hD hS)
    · cases h
  · cases h
theorem pi_istore (hx : p.tables.exec = Jvm.exec) (hb : c.code = cc) {k : Nat} (hd : decode cc pc = .ok (.istore k, 2)) (h : pm_sti nL k (pc + 2) ls st σ = some (.inl x)) (K : pm_G p l e R s m args below meth c Q D lay cy sh N nL A x) : pm_G p l e R s m args below meth c Q D lay cy sh N nL A (pc, ls, st, σ) := by
  intro H locs lsA hl hP hD hS
  unfold pm_sti at h
  split at h
  · split at h
    · rename_i y r hk
      cases h
      exact lv_istore hx hb hd hl hk (pm_s1_L (lay := lay) (ls := ls) (k := k) (v := .inl y)) (fun ls2 hl2 => K H locs ls2 hl2 hP hD hS)
    · cases h
  · cases h
theorem pi_astore_n (hx : p.tables.exec = Jvm.exec) (hb : c.code = cc) {k : Fin 4} (hd : decode cc pc = .ok (.astore_n k, 1)) (h : pm_sta nL k (pc + 1) ls st σ = some (.inl x)) (K : pm_G p l e R s m args below meth c Q D lay cy sh N nL A x) : pm_G p l e R s m args below meth c Q D lay cy sh N nL A (pc, ls, st, σ) := by
  intro H locs lsA hl hP hD hS
  unfold pm_sta at h
  split at h
  · split at h
    · rename_i y r hk
      cases h
      exact lv_astore_n hx hb hd rfl hl hk (pm_s1_L (lay := lay) (ls := ls) (k := k) (v := .inr (.inr y))) (fun ls2 hl2 => K H locs ls2 hl2 hP hD hS)
    · cases h
  · cases h
theorem pi_astore (hx : p.tables.exec = Jvm.exec) (hb : c.code = cc) {k : Nat} (hd : decode cc pc = .ok (.astore k, 2)) (h : pm_sta nL k (pc + 2) ls st σ = some (.inl x)) (K : pm_G p l e R s m args below meth c Q D lay cy sh N nL A x) : pm_G p l e R s m args below meth c Q D lay cy sh N nL A (pc, ls, st, σ) := by
  intro H locs lsA hl hP hD hS
  unfold pm_sta at h
  split at h
  · split at h
    · rename_i y r hk
      cases h
      exact lv_astore hx hb hd hl hk (pm_s1_L (lay := lay) (ls := ls) (k := k) (v := .inr (.inr y))) (fun ls2 hl2 => K H locs ls2 hl2 hP hD hS)
    · cases h
  · cases h
theorem pi_lstore (hx : p.tables.exec = Jvm.exec) (hb : c.code = cc) {k : Nat} (hd : decode cc pc = .ok (.lstore k, 2)) (h : pm_stl nL k (pc + 2) ls st σ = some (.inl x)) (K : pm_G p l e R s m args below meth c Q D lay cy sh N nL A x) : pm_G p l e R s m args below meth c Q D lay cy sh N nL A (pc, ls, st, σ) := by
  intro H locs lsA hl hP hD hS
  unfold pm_stl at h
  split at h
  · split at h
    · rename_i y r hk
      cases h
      exact lv_lstore hx hb hd hl hk (pm_s2_L (lay := lay) (ls := ls) (k := k) (v := .inr (.inl y))) (fun ls2 hl2 => K H locs ls2 hl2 hP hD hS)
    · cases h
  · cases h
theorem pi_iinc (hx : p.tables.exec = Jvm.exec) (hb : c.code = cc) {k : Nat} {n : Int} (hd : decode cc pc = .ok (.iinc k n, 3)) (h : pm_inc nL k n (pc + 3) ls st σ = some (.inl x)) (K : pm_G p l e R s m args below meth c Q D lay cy sh N nL A x) : pm_G p l e R s m args below meth c Q D lay cy sh N nL A (pc, ls, st, σ) := by
  intro H locs lsA hl hP hD hS
  unfold pm_inc at h
  split at h
  · rename_i y hq
    split at h
    · rename_i hk
      cases h
      obtain ⟨j, hj⟩ := List.getElem?_of_mem (List.mem_map.mpr ⟨(k, .inl y), pm_lk_mem hq, rfl⟩ : (k, pm_v lay (.inl y)) ∈ pm_L lay ls)
      exact lv_iinc hx hb hd hl hj rfl hk (pm_s1_L (lay := lay) (v := .inl (y + Int32.ofInt n))) (fun ls2 hl2 => K H locs ls2 hl2 hP hD hS)
    · cases h
  · cases h
theorem pi_iadd (hx : p.tables.exec = Jvm.exec) (hb : c.code = cc) (hd : decode cc pc = .ok (.iadd, 1)) (h : pm_ii (fun x y => x + y) (pc + 1) ls st σ = some (.inl x)) (K : pm_G p l e R s m args below meth c Q D lay cy sh N nL A x) : pm_G p l e R s m args below meth c Q D lay cy sh N nL A (pc, ls, st, σ) := by
  intro H locs lsA hl hP hD hS
  unfold pm_ii at h
  split at h
  · cases h
    exact lv_iadd hx hb hd (K H locs lsA hl hP hD hS)
  · cases h
theorem pi_isub (hx : p.tables.exec = Jvm.exec) (hb : c.code = cc) (hd : decode cc pc = .ok (.isub, 1)) (h : pm_ii (fun x y => x - y) (pc + 1) ls st σ = some (.inl x)) (K : pm_G p l e R s m args below meth c Q D lay cy sh N nL A x) : pm_G p l e R s m args below meth c Q D lay cy sh N nL A (pc, ls, st, σ) := by
  intro H locs lsA hl hP hD hS
  unfold pm_ii at h
  split at h
  · cases h
    exact lv_isub hx hb hd (K H locs lsA hl hP hD hS)
  · cases h
theorem pi_imul (hx : p.tables.exec = Jvm.exec) (hb : c.code = cc) (hd : decode cc pc = .ok (.imul, 1)) (h : pm_ii (fun x y => x * y) (pc + 1) ls st σ = some (.inl x)) (K : pm_G p l e R s m args below meth c Q D lay cy sh N nL A x) : pm_G p l e R s m args below meth c Q D lay cy sh N nL A (pc, ls, st, σ) := by
  intro H locs lsA hl hP hD hS
  unfold pm_ii at h
  split at h
  · cases h
    exact lv_imul hx hb hd (K H locs lsA hl hP hD hS)
  · cases h
theorem pi_iand (hx : p.tables.exec = Jvm.exec) (hb : c.code = cc) (hd : decode cc pc = .ok (.iand, 1)) (h : pm_ii (fun x y => x &&& y) (pc + 1) ls st σ = some (.inl x)) (K : pm_G p l e R s m args below meth c Q D lay cy sh N nL A x) : pm_G p l e R s m args below meth c Q D lay cy sh N nL A (pc, ls, st, σ) := by
  intro H locs lsA hl hP hD hS
  unfold pm_ii at h
  split at h
  · cases h
    exact lv_iand hx hb hd (K H locs lsA hl hP hD hS)
  · cases h
theorem pi_ior (hx : p.tables.exec = Jvm.exec) (hb : c.code = cc) (hd : decode cc pc = .ok (.ior, 1)) (h : pm_ii (fun x y => x ||| y) (pc + 1) ls st σ = some (.inl x)) (K : pm_G p l e R s m args below meth c Q D lay cy sh N nL A x) : pm_G p l e R s m args below meth c Q D lay cy sh N nL A (pc, ls, st, σ) := by
  intro H locs lsA hl hP hD hS
  unfold pm_ii at h
  split at h
  · cases h
    exact lv_ior hx hb hd (K H locs lsA hl hP hD hS)
  · cases h
theorem pi_ishl (hx : p.tables.exec = Jvm.exec) (hb : c.code = cc) (hd : decode cc pc = .ok (.ishl, 1)) (h : pm_ii (fun x y => x <<< (y &&& 31)) (pc + 1) ls st σ = some (.inl x)) (K : pm_G p l e R s m args below meth c Q D lay cy sh N nL A x) : pm_G p l e R s m args below meth c Q D lay cy sh N nL A (pc, ls, st, σ) := by
  intro H locs lsA hl hP hD hS
  unfold pm_ii at h
  split at h
  · cases h
    exact lv_ishl hx hb hd (K H locs lsA hl hP hD hS)
  · cases h
theorem pi_iushr (hx : p.tables.exec = Jvm.exec) (hb : c.code = cc) (hd : decode cc pc = .ok (.iushr, 1)) (h : pm_ii (fun x y => (x.toUInt32 >>> (y.toUInt32 &&& Int32.toUInt32 31)).toInt32) (pc + 1) ls st σ = some (.inl x)) (K : pm_G p l e R s m args below meth c Q D lay cy sh N nL A x) : pm_G p l e R s m args below meth c Q D lay cy sh N nL A (pc, ls, st, σ) := by
  intro H locs lsA hl hP hD hS
  unfold pm_ii at h
  split at h
  · cases h
    exact lv_iushr hx hb hd rfl (K H locs lsA hl hP hD hS)
  · cases h
theorem pi_ladd (hx : p.tables.exec = Jvm.exec) (hb : c.code = cc) (hd : decode cc pc = .ok (.ladd, 1)) (h : pm_ll (fun x y => x + y) (pc + 1) ls st σ = some (.inl x)) (K : pm_G p l e R s m args below meth c Q D lay cy sh N nL A x) : pm_G p l e R s m args below meth c Q D lay cy sh N nL A (pc, ls, st, σ) := by
  intro H locs lsA hl hP hD hS
  unfold pm_ll at h
  split at h
  · cases h
    exact lv_ladd hx hb hd (K H locs lsA hl hP hD hS)
  · cases h
theorem pi_lsub (hx : p.tables.exec = Jvm.exec) (hb : c.code = cc) (hd : decode cc pc = .ok (.lsub, 1)) (h : pm_ll (fun x y => x - y) (pc + 1) ls st σ = some (.inl x)) (K : pm_G p l e R s m args below meth c Q D lay cy sh N nL A x) : pm_G p l e R s m args below meth c Q D lay cy sh N nL A (pc, ls, st, σ) := by
  intro H locs lsA hl hP hD hS
  unfold pm_ll at h
  split at h
  · cases h
    exact lv_lsub hx hb hd (K H locs lsA hl hP hD hS)
  · cases h
theorem pi_lmul (hx : p.tables.exec = Jvm.exec) (hb : c.code = cc) (hd : decode cc pc = .ok (.lmul, 1)) (h : pm_ll (fun x y => x * y) (pc + 1) ls st σ = some (.inl x)) (K : pm_G p l e R s m args below meth c Q D lay cy sh N nL A x) : pm_G p l e R s m args below meth c Q D lay cy sh N nL A (pc, ls, st, σ) := by
  intro H locs lsA hl hP hD hS
  unfold pm_ll at h
  split at h
  · cases h
    exact lv_lmul hx hb hd (K H locs lsA hl hP hD hS)
  · cases h
theorem pi_land (hx : p.tables.exec = Jvm.exec) (hb : c.code = cc) (hd : decode cc pc = .ok (.land, 1)) (h : pm_ll (fun x y => x &&& y) (pc + 1) ls st σ = some (.inl x)) (K : pm_G p l e R s m args below meth c Q D lay cy sh N nL A x) : pm_G p l e R s m args below meth c Q D lay cy sh N nL A (pc, ls, st, σ) := by
  intro H locs lsA hl hP hD hS
  unfold pm_ll at h
  split at h
  · cases h
    exact lv_land hx hb hd (K H locs lsA hl hP hD hS)
  · cases h
theorem pi_lor (hx : p.tables.exec = Jvm.exec) (hb : c.code = cc) (hd : decode cc pc = .ok (.lor, 1)) (h : pm_ll (fun x y => x ||| y) (pc + 1) ls st σ = some (.inl x)) (K : pm_G p l e R s m args below meth c Q D lay cy sh N nL A x) : pm_G p l e R s m args below meth c Q D lay cy sh N nL A (pc, ls, st, σ) := by
  intro H locs lsA hl hP hD hS
  unfold pm_ll at h
  split at h
  · cases h
    exact lv_lor hx hb hd (K H locs lsA hl hP hD hS)
  · cases h
theorem pi_irem (hx : p.tables.exec = Jvm.exec) (hb : c.code = cc) (hd : decode cc pc = .ok (.irem, 1)) (h : pm_irem (pc + 1) ls st σ = some (.inl x)) (K : pm_G p l e R s m args below meth c Q D lay cy sh N nL A x) : pm_G p l e R s m args below meth c Q D lay cy sh N nL A (pc, ls, st, σ) := by
  intro H locs lsA hl hP hD hS
  unfold pm_irem at h
  split at h
  · split at h
    · cases h
    · rename_i hne
      cases h
      exact lv_irem hx hb hd hne (K H locs lsA hl hP hD hS)
  · cases h
theorem pi_lrem (hx : p.tables.exec = Jvm.exec) (hb : c.code = cc) (hd : decode cc pc = .ok (.lrem, 1)) (h : pm_lrem (pc + 1) ls st σ = some (.inl x)) (K : pm_G p l e R s m args below meth c Q D lay cy sh N nL A x) : pm_G p l e R s m args below meth c Q D lay cy sh N nL A (pc, ls, st, σ) := by
  intro H locs lsA hl hP hD hS
  unfold pm_lrem at h
  split at h
  · split at h
    · cases h
    · rename_i hne
      cases h
      exact lv_lrem hx hb hd hne (K H locs lsA hl hP hD hS)
  · cases h
theorem pi_lcmp (hx : p.tables.exec = Jvm.exec) (hb : c.code = cc) (hd : decode cc pc = .ok (.lcmp, 1)) (h : pm_lcmp (pc + 1) ls st σ = some (.inl x)) (K : pm_G p l e R s m args below meth c Q D lay cy sh N nL A x) : pm_G p l e R s m args below meth c Q D lay cy sh N nL A (pc, ls, st, σ) := by
  intro H locs lsA hl hP hD hS
  unfold pm_lcmp at h
  split at h
  · cases h
    exact W.lcmp hx hb hd (K H locs lsA hl hP hD hS)
  · cases h
theorem pi_lshl (hx : p.tables.exec = Jvm.exec) (hb : c.code = cc) (hd : decode cc pc = .ok (.lshl, 1)) (h : pm_lsh (pc + 1) ls st σ = some (.inl x)) (K : pm_G p l e R s m args below meth c Q D lay cy sh N nL A x) : pm_G p l e R s m args below meth c Q D lay cy sh N nL A (pc, ls, st, σ) := by
  intro H locs lsA hl hP hD hS
  unfold pm_lsh at h
  split at h
  · cases h
    exact lv_lshl hx hb hd rfl (K H locs lsA hl hP hD hS)
  · cases h
theorem pi_i2l (hx : p.tables.exec = Jvm.exec) (hb : c.code = cc) (hd : decode cc pc = .ok (.i2l, 1)) (h : pm_i2l (pc + 1) ls st σ = some (.inl x)) (K : pm_G p l e R s m args below meth c Q D lay cy sh N nL A x) : pm_G p l e R s m args below meth c Q D lay cy sh N nL A (pc, ls, st, σ) := by
  intro H locs lsA hl hP hD hS
  unfold pm_i2l at h
  split at h
  · cases h
    exact lv_i2l hx hb hd rfl (K H locs lsA hl hP hD hS)
  · cases h
theorem pi_l2i (hx : p.tables.exec = Jvm.exec) (hb : c.code = cc) (hd : decode cc pc = .ok (.l2i, 1)) (h : pm_l2i (pc + 1) ls st σ = some (.inl x)) (K : pm_G p l e R s m args below meth c Q D lay cy sh N nL A x) : pm_G p l e R s m args below meth c Q D lay cy sh N nL A (pc, ls, st, σ) := by
  intro H locs lsA hl hP hD hS
  unfold pm_l2i at h
  split at h
  · cases h
    exact lv_l2i hx hb hd rfl (K H locs lsA hl hP hD hS)
  · cases h
theorem pi_dup (hx : p.tables.exec = Jvm.exec) (hb : c.code = cc) (hd : decode cc pc = .ok (.dup, 1)) (h : pm_dup (pc + 1) ls st σ = some (.inl x)) (K : pm_G p l e R s m args below meth c Q D lay cy sh N nL A x) : pm_G p l e R s m args below meth c Q D lay cy sh N nL A (pc, ls, st, σ) := by
  intro H locs lsA hl hP hD hS
  unfold pm_dup at h
  split at h
  · split at h
    · rename_i v r hw
      cases h
      exact lv_dup hx hb hd ((pm_cat lay v).trans hw) (K H locs lsA hl hP hD hS)
    · cases h
  · cases h
theorem pi_pop (hx : p.tables.exec = Jvm.exec) (hb : c.code = cc) (hd : decode cc pc = .ok (.pop, 1)) (h : pm_pop (pc + 1) ls st σ = some (.inl x)) (K : pm_G p l e R s m args below meth c Q D lay cy sh N nL A x) : pm_G p l e R s m args below meth c Q D lay cy sh N nL A (pc, ls, st, σ) := by
  intro H locs lsA hl hP hD hS
  unfold pm_pop at h
  split at h
  · split at h
    · rename_i v r hw
      cases h
      exact lv_pop hx hb hd ((pm_cat lay v).trans hw) (K H locs lsA hl hP hD hS)
    · cases h
  · cases h
theorem pi_dup2 (hx : p.tables.exec = Jvm.exec) (hb : c.code = cc) (hd : decode cc pc = .ok (.dup2, 1)) (h : pm_dup2 (pc + 1) ls st σ = some (.inl x)) (K : pm_G p l e R s m args below meth c Q D lay cy sh N nL A x) : pm_G p l e R s m args below meth c Q D lay cy sh N nL A (pc, ls, st, σ) := by
  intro H locs lsA hl hP hD hS
  unfold pm_dup2 at h
  split at h
  · split at h
    · rename_i v u r hw
      cases h
      exact lv_dup2_11 hx hb hd ((pm_cat lay v).trans hw.1) ((pm_cat lay u).trans hw.2) (K H locs lsA hl hP hD hS)
    · cases h
  · cases h
theorem pm_jt {pc : Nat} {off : Int} (h : 0 ≤ (pc : Int) + off) : (pc : Int) + off = ((((pc : Int) + off).toNat : Nat) : Int) := (Int.toNat_of_nonneg h).symm
theorem pi_goto (hx : p.tables.exec = Jvm.exec) (hb : c.code = cc) {off : Int} (hd : decode cc pc = .ok (.goto off, 3)) (h : pm_j pc off ls st σ = some (.inl x)) (K : pm_G p l e R s m args below meth c Q D lay cy sh N nL A x) : pm_G p l e R s m args below meth c Q D lay cy sh N nL A (pc, ls, st, σ) := by
  intro H locs lsA hl hP hD hS
  unfold pm_j at h
  split at h
  · rename_i hj
    cases h
    exact lv_goto hx hb hd (pm_jt hj) (K H locs lsA hl hP hD hS)
  · cases h
theorem pi_if_eq (hx : p.tables.exec = Jvm.exec) (hb : c.code = cc) {off : Int} (HT : (pc : Int) + off = ((((pc : Int) + off).toNat : Nat) : Int)) (hd : decode cc pc = .ok (.ifCond .eq off, 3)) (h : pm_if (fun x => decide (x = 0)) off pc ls st σ = some (.inl x)) (K : pm_G p l e R s m args below meth c Q D lay cy sh N nL A x) : pm_G p l e R s m args below meth c Q D lay cy sh N nL A (pc, ls, st, σ) := by
  intro H locs lsA hl hP hD hS
  unfold pm_if at h
  split at h
  · rename_i y r
    split at h
    · rename_i hc
      have hc := of_decide_eq_true hc
      unfold pm_j at h
      split at h
      · rename_i hj
        cases h
        exact lv_if_eq hx hb hd (pm_jt hj) (fun _ => K H locs lsA hl hP hD hS) (fun q => absurd hc q)
      · cases h
    · rename_i hc
      have hc : ¬ (y = 0) := fun q => hc (decide_eq_true q)
      cases h
      exact lv_if_eq hx hb hd (tgt := ((pc : Int) + off).toNat) HT (fun q => absurd q hc) (fun _ => K H locs lsA hl hP hD hS)
  · cases h
theorem pi_if_ne (hx : p.tables.exec = Jvm.exec) (hb : c.code = cc) {off : Int} (HT : (pc : Int) + off = ((((pc : Int) + off).toNat : Nat) : Int)) (hd : decode cc pc = .ok (.ifCond .ne off, 3)) (h : pm_if (fun x => decide (¬ x = 0)) off pc ls st σ = some (.inl x)) (K : pm_G p l e R s m args below meth c Q D lay cy sh N nL A x) : pm_G p l e R s m args below meth c Q D lay cy sh N nL A (pc, ls, st, σ) := by
  intro H locs lsA hl hP hD hS
  unfold pm_if at h
  split at h
  · rename_i y r
    split at h
    · rename_i hc
      have hc := of_decide_eq_true hc
      unfold pm_j at h
      split at h
      · rename_i hj
        cases h
        exact lv_if_ne hx hb hd (pm_jt hj) (fun _ => K H locs lsA hl hP hD hS) (fun q => absurd q hc)
      · cases h
    · rename_i hc
      have hc : ¬ (¬ y = 0) := fun q => hc (decide_eq_true q)
      cases h
      exact lv_if_ne hx hb hd (tgt := ((pc : Int) + off).toNat) HT (fun q => absurd q hc) (fun _ => K H locs lsA hl hP hD hS)
  · cases h
theorem pi_if_lt (hx : p.tables.exec = Jvm.exec) (hb : c.code = cc) {off : Int} (HT : (pc : Int) + off = ((((pc : Int) + off).toNat : Nat) : Int)) (hd : decode cc pc = .ok (.ifCond .lt off, 3)) (h : pm_if (fun x => decide (x < 0)) off pc ls st σ = some (.inl x)) (K : pm_G p l e R s m args below meth c Q D lay cy sh N nL A x) : pm_G p l e R s m args below meth c Q D lay cy sh N nL A (pc, ls, st, σ) := by
  intro H locs lsA hl hP hD hS
  unfold pm_if at h
  split at h
  · rename_i y r
    split at h
    · rename_i hc
      have hc := of_decide_eq_true hc
      unfold pm_j at h
      split at h
      · rename_i hj
        cases h
        exact lv_if_lt hx hb hd (pm_jt hj) (fun _ => K H locs lsA hl hP hD hS) (fun q => absurd hc q)
      · cases h
    · rename_i hc
      have hc : ¬ (y < 0) := fun q => hc (decide_eq_true q)
      cases h
      exact lv_if_lt hx hb hd (tgt := ((pc : Int) + off).toNat) HT (fun q => absurd q hc) (fun _ => K H locs lsA hl hP hD hS)
  · cases h
theorem pi_if_ge (hx : p.tables.exec = Jvm.exec) (hb : c.code = cc) {off : Int} (HT : (pc : Int) + off = ((((pc : Int) + off).toNat : Nat) : Int)) (hd : decode cc pc = .ok (.ifCond .ge off, 3)) (h : pm_if (fun x => decide (0 ≤ x)) off pc ls st σ = some (.inl x)) (K : pm_G p l e R s m args below meth c Q D lay cy sh N nL A x) : pm_G p l e R s m args below meth c Q D lay cy sh N nL A (pc, ls, st, σ) := by
  intro H locs lsA hl hP hD hS
  unfold pm_if at h
  split at h
  · rename_i y r
    split at h
    · rename_i hc
      have hc := of_decide_eq_true hc
      unfold pm_j at h
      split at h
      · rename_i hj
        cases h
        exact lv_if_ge hx hb hd (pm_jt hj) (fun _ => K H locs lsA hl hP hD hS) (fun q => absurd hc q)
      · cases h
    · rename_i hc
      have hc : ¬ (0 ≤ y) := fun q => hc (decide_eq_true q)
      cases h
      exact lv_if_ge hx hb hd (tgt := ((pc : Int) + off).toNat) HT (fun q => absurd q hc) (fun _ => K H locs lsA hl hP hD hS)
  · cases h
theorem pi_if_gt (hx : p.tables.exec = Jvm.exec) (hb : c.code = cc) {off : Int} (HT : (pc : Int) + off = ((((pc : Int) + off).toNat : Nat) : Int)) (hd : decode cc pc = .ok (.ifCond .gt off, 3)) (h : pm_if (fun x => decide (0 < x)) off pc ls st σ = some (.inl x)) (K : pm_G p l e R s m args below meth c Q D lay cy sh N nL A x) : pm_G p l e R s m args below meth c Q D lay cy sh N nL A (pc, ls, st, σ) := by
  intro H locs lsA hl hP hD hS
  unfold pm_if at h
  split at h
  · rename_i y r
    split at h
    · rename_i hc
      have hc := of_decide_eq_true hc
      unfold pm_j at h
      split at h
      · rename_i hj
        cases h
        exact lv_if_gt hx hb hd (pm_jt hj) (fun _ => K H locs lsA hl hP hD hS) (fun q => absurd hc q)
      · cases h
    · rename_i hc
      have hc : ¬ (0 < y) := fun q => hc (decide_eq_true q)
      cases h
      exact lv_if_gt hx hb hd (tgt := ((pc : Int) + off).toNat) HT (fun q => absurd q hc) (fun _ => K H locs lsA hl hP hD hS)
  · cases h
theorem pi_if_le (hx : p.tables.exec = Jvm.exec) (hb : c.code = cc) {off : Int} (HT : (pc : Int) + off = ((((pc : Int) + off).toNat : Nat) : Int)) (hd : decode cc pc = .ok (.ifCond .le off, 3)) (h : pm_if (fun x => decide (x ≤ 0)) off pc ls st σ = some (.inl x)) (K : pm_G p l e R s m args below meth c Q D lay cy sh N nL A x) : pm_G p l e R s m args below meth c Q D lay cy sh N nL A (pc, ls, st, σ) := by
  intro H locs lsA hl hP hD hS
  unfold pm_if at h
  split at h
  · rename_i y r
    split at h
    · rename_i hc
      have hc := of_decide_eq_true hc
      unfold pm_j at h
      split at h
      · rename_i hj
        cases h
        exact lv_if_le hx hb hd (pm_jt hj) (fun _ => K H locs lsA hl hP hD hS) (fun q => absurd hc q)
      · cases h
    · rename_i hc
      have hc : ¬ (y ≤ 0) := fun q => hc (decide_eq_true q)
      cases h
      exact lv_if_le hx hb hd (tgt := ((pc : Int) + off).toNat) HT (fun q => absurd q hc) (fun _ => K H locs lsA hl hP hD hS)
  · cases h
theorem pi_ic_eq (hx : p.tables.exec = Jvm.exec) (hb : c.code = cc) {off : Int} (HT : (pc : Int) + off = ((((pc : Int) + off).toNat : Nat) : Int)) (hd : decode cc pc = .ok (.if_icmp .eq off, 3)) (h : pm_ic (fun x y => decide (x = y)) off pc ls st σ = some (.inl x)) (K : pm_G p l e R s m args below meth c Q D lay cy sh N nL A x) : pm_G p l e R s m args below meth c Q D lay cy sh N nL A (pc, ls, st, σ) := by
  intro H locs lsA hl hP hD hS
  unfold pm_ic at h
  split at h
  · rename_i b a r
    split at h
    · rename_i hc
      have hc := of_decide_eq_true hc
      unfold pm_j at h
      split at h
      · rename_i hj
        cases h
        exact lv_icmp_eq hx hb hd (pm_jt hj) (fun _ => K H locs lsA hl hP hD hS) (fun q => absurd hc q)
      · cases h
    · rename_i hc
      have hc : ¬ (a = b) := fun q => hc (decide_eq_true q)
      cases h
      exact lv_icmp_eq hx hb hd (tgt := ((pc : Int) + off).toNat) HT (fun q => absurd q hc) (fun _ => K H locs lsA hl hP hD hS)
  · cases h
theorem pi_ic_ne (hx : p.tables.exec = Jvm.exec) (hb : c.code = cc) {off : Int} (HT : (pc : Int) + off = ((((pc : Int) + off).toNat : Nat) : Int)) (hd : decode cc pc = .ok (.if_icmp .ne off, 3)) (h : pm_ic (fun x y => decide (¬ x = y)) off pc ls st σ = some (.inl x)) (K : pm_G p l e R s m args below meth c Q D lay cy sh N nL A x) : pm_G p l e R s m args below meth c Q D lay cy sh N nL A (pc, ls, st, σ) := by
  intro H locs lsA hl hP hD hS
  unfold pm_ic at h
  split at h
  · rename_i b a r
    split at h
    · rename_i hc
      have hc := of_decide_eq_true hc
      unfold pm_j at h
      split at h
      · rename_i hj
        cases h
        exact lv_icmp_ne hx hb hd (pm_jt hj) (fun _ => K H locs lsA hl hP hD hS) (fun q => absurd q hc)
      · cases h
    · rename_i hc
      have hc : ¬ (¬ a = b) := fun q => hc (decide_eq_true q)
      cases h
      exact lv_icmp_ne hx hb hd (tgt := ((pc : Int) + off).toNat) HT (fun q => absurd q hc) (fun _ => K H locs lsA hl hP hD hS)
  · cases h
theorem pi_ic_lt (hx : p.tables.exec = Jvm.exec) (hb : c.code = cc) {off : Int} (HT : (pc : Int) + off = ((((pc : Int) + off).toNat : Nat) : Int)) (hd : decode cc pc = .ok (.if_icmp .lt off, 3)) (h : pm_ic (fun x y => decide (x < y)) off pc ls st σ = some (.inl x)) (K : pm_G p l e R s m args below meth c Q D lay cy sh N nL A x) : pm_G p l e R s m args below meth c Q D lay cy sh N nL A (pc, ls, st, σ) := by
  intro H locs lsA hl hP hD hS
  unfold pm_ic at h
  split at h
  · rename_i b a r
    split at h
    · rename_i hc
      have hc := of_decide_eq_true hc
      unfold pm_j at h
      split at h
      · rename_i hj
        cases h
        exact lv_icmp_lt hx hb hd (pm_jt hj) (fun _ => K H locs lsA hl hP hD hS) (fun q => absurd hc q)
      · cases h
    · rename_i hc
      have hc : ¬ (a < b) := fun q => hc (decide_eq_true q)
      cases h
      exact lv_icmp_lt hx hb hd (tgt := ((pc : Int) + off).toNat) HT (fun q => absurd q hc) (fun _ => K H locs lsA hl hP hD hS)
  · cases h
theorem pi_ic_ge (hx : p.tables.exec = Jvm.exec) (hb : c.code = cc) {off : Int} (HT : (pc : Int) + off = ((((pc : Int) + off).toNat : Nat) : Int)) (hd : decode cc pc = .ok (.if_icmp .ge off, 3)) (h : pm_ic (fun x y => decide (y ≤ x)) off pc ls st σ = some (.inl x)) (K : pm_G p l e R s m args below meth c Q D lay cy sh N nL A x) : pm_G p l e R s m args below meth c Q D lay cy sh N nL A (pc, ls, st, σ) := by
  intro H locs lsA hl hP hD hS
  unfold pm_ic at h
  split at h
  · rename_i b a r
    split at h
    · rename_i hc
      have hc := of_decide_eq_true hc
      unfold pm_j at h
      split at h
      · rename_i hj
        cases h
        exact lv_icmp_ge hx hb hd (pm_jt hj) (fun _ => K H locs lsA hl hP hD hS) (fun q => absurd hc q)
      · cases h
    · rename_i hc
      have hc : ¬ (b ≤ a) := fun q => hc (decide_eq_true q)
      cases h
      exact lv_icmp_ge hx hb hd (tgt := ((pc : Int) + off).toNat) HT (fun q => absurd q hc) (fun _ => K H locs lsA hl hP hD hS)
  · cases h
theorem pi_ic_gt (hx : p.tables.exec = Jvm.exec) (hb : c.code = cc) {off : Int} (HT : (pc : Int) + off = ((((pc : Int) + off).toNat : Nat) : Int)) (hd : decode cc pc = .ok (.if_icmp .gt off, 3)) (h : pm_ic (fun x y => decide (y < x)) off pc ls st σ = some (.inl x)) (K : pm_G p l e R s m args below meth c Q D lay cy sh N nL A x) : pm_G p l e R s m args below meth c Q D lay cy sh N nL A (pc, ls, st, σ) := by
  intro H locs lsA hl hP hD hS
  unfold pm_ic at h
  split at h
  · rename_i b a r
    split at h
    · rename_i hc
      have hc := of_decide_eq_true hc
      unfold pm_j at h
      split at h
      · rename_i hj
        cases h
        exact lv_icmp_gt hx hb hd (pm_jt hj) (fun _ => K H locs lsA hl hP hD hS) (fun q => absurd hc q)
      · cases h
    · rename_i hc
      have hc : ¬ (b < a) := fun q => hc (decide_eq_true q)
      cases h
      exact lv_icmp_gt hx hb hd (tgt := ((pc : Int) + off).toNat) HT (fun q => absurd q hc) (fun _ => K H locs lsA hl hP hD hS)
  · cases h
theorem pi_ic_le (hx : p.tables.exec = Jvm.exec) (hb : c.code = cc) {off : Int} (HT : (pc : Int) + off = ((((pc : Int) + off).toNat : Nat) : Int)) (hd : decode cc pc = .ok (.if_icmp .le off, 3)) (h : pm_ic (fun x y => decide (x ≤ y)) off pc ls st σ = some (.inl x)) (K : pm_G p l e R s m args below meth c Q D lay cy sh N nL A x) : pm_G p l e R s m args below meth c Q D lay cy sh N nL A (pc, ls, st, σ) := by
  intro H locs lsA hl hP hD hS
  unfold pm_ic at h
  split at h
  · rename_i b a r
    split at h
    · rename_i hc
      have hc := of_decide_eq_true hc
      unfold pm_j at h
      split at h
      · rename_i hj
        cases h
        exact lv_icmp_le hx hb hd (pm_jt hj) (fun _ => K H locs lsA hl hP hD hS) (fun q => absurd hc q)
      · cases h
    · rename_i hc
      have hc : ¬ (a ≤ b) := fun q => hc (decide_eq_true q)
      cases h
      exact lv_icmp_le hx hb hd (tgt := ((pc : Int) + off).toNat) HT (fun q => absurd q hc) (fun _ => K H locs lsA hl hP hD hS)
  · cases h
theorem pi_tsw (hx : p.tables.exec = Jvm.exec) (hb : c.code = cc) {dflt lo hi : Int} {offs : Array Int} {len : Nat} (hd : decode cc pc = .ok (.tableswitch dflt lo hi offs, len)) (h : pm_tsw dflt lo hi offs pc ls st σ = some (.inl x)) (K : pm_G p l e R s m args below meth c Q D lay cy sh N nL A x) : pm_G p l e R s m args below meth c Q D lay cy sh N nL A (pc, ls, st, σ) := by
  intro H locs lsA hl hP hD hS
  unfold pm_tsw at h
  split at h
  · rename_i y r
    split at h
    · rename_i hc
      unfold pm_j at h
      split at h
      · rename_i hj
        cases h
        exact lv_tableOut hx hb hd hc (pm_jt hj) (K H locs lsA hl hP hD hS)
      · cases h
    · rename_i hc
      split at h
      · rename_i off ho
        unfold pm_j at h
        split at h
        · rename_i hj
          cases h
          exact lv_tableIn hx hb hd (fun q => hc (Or.inl q)) (fun q => hc (Or.inr q)) ho (pm_jt hj) (K H locs lsA hl hP hD hS)
        · cases h
      · cases h
  · cases h
theorem pi_lsw (hx : p.tables.exec = Jvm.exec) (hb : c.code = cc) {dflt : Int} {ps : Array (Int × Int)} {len : Nat} (hd : decode cc pc = .ok (.lookupswitch dflt ps, len)) (h : pm_lsw dflt ps pc ls st σ = some (.inl x)) (K : pm_G p l e R s m args below meth c Q D lay cy sh N nL A x) : pm_G p l e R s m args below meth c Q D lay cy sh N nL A (pc, ls, st, σ) := by
  intro H locs lsA hl hP hD hS
  unfold pm_lsw at h
  split at h
  · rename_i y r
    split at h
    · rename_i hp
      unfold pm_j at h
      split at h
      · rename_i hj
        cases h
        exact lv_lookup hx hb hd hp rfl (pm_jt hj) (K H locs lsA hl hP hD hS)
      · cases h
    · cases h
  · cases h
end PMI
end
section
/-! ===== fields, arrays, returns and calls of the pure machine ===== -/
theorem pm_W_obj {lay : Nat → Nat} {cy : Nat → ClassId} {sh : pSH} {N : Nat} {σ : pST} {i ci : Nat} (h : i < N) (hs : sh i = .inl ci) : (pm_W lay cy sh N σ)[i]? = some (lay i, .inr (ci, pm_fs lay σ i 0 (pm_fk ci))) := by
  rw [pm_W_get h]; unfold pm_E; rw [hs]
theorem pm_W_int {lay : Nat → Nat} {cy : Nat → ClassId} {sh : pSH} {N : Nat} {σ : pST} {i n : Nat} (h : i < N) (hs : sh i = .inr (0, n)) : (pm_W lay cy sh N σ)[i]? = some (lay i, .inl (cy 0, n, .inl (σ.1 i))) := by
  rw [pm_W_get h]; unfold pm_E; rw [hs]; rfl
theorem pm_W_lng {lay : Nat → Nat} {cy : Nat → ClassId} {sh : pSH} {N : Nat} {σ : pST} {i n : Nat} (h : i < N) (hs : sh i = .inr (1, n)) : (pm_W lay cy sh N σ)[i]? = some (lay i, .inl (cy 1, n, .inr (.inl (σ.2 i)))) := by
  rw [pm_W_get h]; unfold pm_E; rw [hs]; rfl
theorem pm_W_boo {lay : Nat → Nat} {cy : Nat → ClassId} {sh : pSH} {N : Nat} {σ : pST} {i n : Nat} (h : i < N) (hs : sh i = .inr (2, n)) : (pm_W lay cy sh N σ)[i]? = some (lay i, .inl (cy 2, n, .inl (σ.1 i))) := by
  rw [pm_W_get h]; unfold pm_E; rw [hs]; rfl
theorem pm_W_ref {lay : Nat → Nat} {cy : Nat → ClassId} {sh : pSH} {N : Nat} {σ : pST} {i n : Nat} (h : i < N) (hs : sh i = .inr (3, n)) : (pm_W lay cy sh N σ)[i]? = some (lay i, .inl (cy 3, n, .inr (.inr (.inr (.inr (fun j => some (lay (i + 1 + 8 * j)))))))) := by
  rw [pm_W_get h]; unfold pm_E; rw [hs]; rfl
theorem pm_E_obj {lay : Nat → Nat} {cy : Nat → ClassId} {sh : pSH} {σ : pST} {i ci : Nat} (hs : sh i = .inl ci) : pm_E lay cy sh σ i = .inr (ci, pm_fs lay σ i 0 (pm_fk ci)) := by unfold pm_E; rw [hs]
theorem pm_E_int {lay : Nat → Nat} {cy : Nat → ClassId} {sh : pSH} {σ : pST} {i n : Nat} (hs : sh i = .inr (0, n)) : pm_E lay cy sh σ i = .inl (cy 0, n, .inl (σ.1 i)) := by unfold pm_E; rw [hs]; rfl
theorem pm_E_lng {lay : Nat → Nat} {cy : Nat → ClassId} {sh : pSH} {σ : pST} {i n : Nat} (hs : sh i = .inr (1, n)) : pm_E lay cy sh σ i = .inl (cy 1, n, .inr (.inl (σ.2 i))) := by unfold pm_E; rw [hs]; rfl
theorem pm_E_boo {lay : Nat → Nat} {cy : Nat → ClassId} {sh : pSH} {σ : pST} {i n : Nat} (hs : sh i = .inr (2, n)) : pm_E lay cy sh σ i = .inl (cy 2, n, .inl (σ.1 i)) := by unfold pm_E; rw [hs]; rfl
theorem pm_ui_s {I : Nat → Nat → Int32} {i k : Nat} {x : Int32} : pm_ui I i k x i = upd (I i) k x := by simp [pm_ui]
theorem pm_ui_n {I : Nat → Nat → Int32} {i k j : Nat} {x : Int32} (h : j ≠ i) : pm_ui I i k x j = I j := by simp [pm_ui, h]
theorem pm_uj_s {J : Nat → Nat → Int64} {i k : Nat} {x : Int64} : pm_uj J i k x i = vp_updL (J i) k x := by simp [pm_uj]
theorem pm_uj_n {J : Nat → Nat → Int64} {i k j : Nat} {x : Int64} (h : j ≠ i) : pm_uj J i k x j = J j := by simp [pm_uj, h]
theorem pm_ui_e {I : Nat → Nat → Int32} {i k : Nat} {x : Int32} : pm_ui I i k x i k = x := by simp [pm_ui, upd]
theorem pm_ui_o {I : Nat → Nat → Int32} {i k a b : Nat} {x : Int32} (h : b ≠ k) : pm_ui I i k x a b = I a b := by
  by_cases ha : a = i
  · subst ha; simp [pm_ui, upd, h]
  · simp [pm_ui, ha]
theorem pm_uj_e {J : Nat → Nat → Int64} {i k : Nat} {x : Int64} : pm_uj J i k x i k = x := by simp [pm_uj, vp_updL]
theorem pm_uj_o {J : Nat → Nat → Int64} {i k a b : Nat} {x : Int64} (h : b ≠ k) : pm_uj J i k x a b = J a b := by
  by_cases ha : a = i
  · subst ha; simp [pm_uj, vp_updL, h]
  · simp [pm_uj, ha]
theorem pm_kd_at {ci k q : Nat} {r : vw_C} (hc : vwCl[ci]? = some r) (hk : k < r.2.2) (hq : (pm_fk ci)[k]? = some q) : pm_kd q (r.2.1 k) = true := by
  have h := (pm_cl ci r hc).2.2.2 k hk
  rw [List.getD_eq_getElem?_getD, hq] at h
  exact h
section PMH
variable {p : Program} {l : Launch} {e : Env} {R : Room} {s : State} {m : MethodId} {args : Array Value} {below : List Frame} {meth : Method} {c : Code} {Q : State → Prop}
variable {D : va_G} {lay : Nat → Nat} {cy : Nat → ClassId} {sh : pSH} {N nL : Nat} {A : Nat → Prop} {cc : ByteArray} {pc : Nat} {ls : pLS} {st : List pSV} {σ : pST} {x : pNX}
variable {own : String} {Ts : List Cond}
theorem pi_get (hx : p.tables.exec = Jvm.exec) (hb : c.code = cc) (hown : s.vm.findClass own = some m.cls) (hts : ∀ w ∈ Ts, w.before args s = true) (hK : va_K D vwCl (pm_T cy) s) (hN : ∀ i, N ≤ i → sh i = .inr (9, 0)) {idx : Nat} {q : Option (Nat × Nat)} (hF : ∀ ci k, q = some (ci, k) → pm_Fok Ts own idx ci k) (hd : decode cc pc = .ok (.getfield idx, 3)) (h : pm_gf sh q (pc + 3) ls st σ = some (.inl x)) (K : pm_G p l e R s m args below meth c Q D lay cy sh N nL A x) : pm_G p l e R s m args below meth c Q D lay cy sh N nL A (pc, ls, st, σ) := by
  intro H locs lsA hl hP hD hS
  unfold pm_gf at h
  split at h
  · rename_i ci k i r
    split at h
    · rename_i hsh
      obtain ⟨⟨C, T, n⟩, hc, hk, hlink, hin⟩ := hF ci k rfl
      have hi : i < N := pm_lt hN (by rw [hsh]; simp)
      have he := pm_W_obj (lay := lay) (cy := cy) (σ := σ) hi hsh
      split at h
      · rename_i hq
        cases h
        exact va_get (D := D) (ci := ci) (v := .int (σ.1 i k)) hx hb hts hin hown hK hP i he hc k hk (hts _ hlink) (fun _ h9 => h9) (by have := pm_fs_get (lay := lay) (σ := σ) (i := i) _ 0 k _ hq; simpa [pm_fv] using this) hd (K H locs lsA hl hP hD hS)
      · rename_i hq
        cases h
        exact va_get (D := D) (ci := ci) (v := .int (σ.1 i k)) hx hb hts hin hown hK hP i he hc k hk (hts _ hlink) (fun _ h9 => h9) (by have := pm_fs_get (lay := lay) (σ := σ) (i := i) _ 0 k _ hq; simpa [pm_fv] using this) hd (K H locs lsA hl hP hD hS)
      · rename_i hq
        cases h
        exact va_get (D := D) (ci := ci) (v := .long (σ.2 i k)) hx hb hts hin hown hK hP i he hc k hk (hts _ hlink) (fun _ h9 => h9) (by have := pm_fs_get (lay := lay) (σ := σ) (i := i) _ 0 k _ hq; simpa [pm_fv] using this) hd (K H locs lsA hl hP hD hS)
      · rename_i hq
        cases h
        exact va_get (D := D) (ci := ci) (v := .int (σ.1 i k)) hx hb hts hin hown hK hP i he hc k hk (hts _ hlink) (fun _ h9 => h9) (by have := pm_fs_get (lay := lay) (σ := σ) (i := i) _ 0 k _ hq; simpa [pm_fv] using this) hd (K H locs lsA hl hP hD hS)
      · rename_i d hq
        cases h
        exact va_get (D := D) (ci := ci) (v := .ref (lay (i + d))) hx hb hts hin hown hK hP i he hc k hk (hts _ hlink) (fun _ h9 => h9) (by have := pm_fs_get (lay := lay) (σ := σ) (i := i) _ 0 k _ hq; simpa [pm_fv] using this) hd (K H locs lsA hl hP hD hS)
      · cases h
    · cases h
  · cases h
theorem pi_put (hx : p.tables.exec = Jvm.exec) (hb : c.code = cc) (hown : s.vm.findClass own = some m.cls) (hts : ∀ w ∈ Ts, w.before args s = true) (hK : va_K D vwCl (pm_T cy) s) (hN : ∀ i, N ≤ i → sh i = .inr (9, 0)) {idx : Nat} {q : Option (Nat × Nat)} (hF : ∀ ci k, q = some (ci, k) → pm_Fok Ts own idx ci k) (hd : decode cc pc = .ok (.putfield idx, 3)) (h : pm_pf sh q (pc + 3) ls st σ = some (.inl x)) (K : pm_G p l e R s m args below meth c Q D lay cy sh N nL A x) : pm_G p l e R s m args below meth c Q D lay cy sh N nL A (pc, ls, st, σ) := by
  intro H locs lsA hl hP hD hS
  unfold pm_pf at h
  split at h
  · rename_i ci k y i r
    split at h
    · rename_i hsh
      obtain ⟨⟨C, T, n⟩, hc, hk, hlink, hin⟩ := hF ci k rfl
      have hi : i < N := pm_lt hN (by rw [hsh]; simp)
      have he := pm_W_obj (lay := lay) (cy := cy) (σ := σ) hi hsh
      obtain ⟨hlen, ⟨ty, hty⟩, hnm, -⟩ := pm_cl ci _ hc
      have hl9 : k < (pm_fs lay σ i 0 (pm_fk ci)).length := by rw [pm_fs_len, hlen]; exact hk
      have hset : ∀ qq, (pm_fk ci)[k]? = some qq → (∀ σ9 : pST, pm_fv lay σ9 i k qq = .int (σ9.1 i k)) → (pm_W lay cy sh N σ).set i (lay i, .inr (ci, (pm_fs lay σ i 0 (pm_fk ci)).set k (.int y))) = pm_W lay cy sh N (pm_ui σ.1 i k y, σ.2) := by
        intro qq hq hfv
        refine pm_W_set (σ := σ) (σ' := (pm_ui σ.1 i k y, σ.2)) hi (fun j hj => ⟨pm_ui_n hj, rfl⟩) ?_
        rw [pm_E_obj hsh, pm_fs_set (σ' := (pm_ui σ.1 i k y, σ.2)) _ 0 k _ hq (by rw [Nat.zero_add, hfv]; exact congrArg _ pm_ui_e) (fun k' hk' => ⟨pm_ui_o (by omega), rfl⟩)]
      split at h
      · rename_i hq
        cases h
        have hkd := pm_kd_at hc hk hq
        simp only [pm_kd, Bool.and_eq_true, Bool.not_eq_true', decide_eq_true_eq] at hkd
        refine va_put (D := D) (ci := ci) (v := .int y) (ty := .int) hx hb hts hin ty hty hnm hown hK hP hD hS i he hc k hk (hts _ hlink) (fun _ h9 => h9) hkd.1 hkd.2 rfl rfl hl9 hd (fun H1 locs1 hP1 hD1 hS1 => ?_)
        rw [hset _ hq (fun _ => rfl)] at hP1 hD1
        exact K H1 locs1 lsA hl hP1 hD1 hS1
      · rename_i hq
        split at h
        · rename_i hy
          cases h
          have hkd := pm_kd_at hc hk hq
          simp only [pm_kd, Bool.and_eq_true, Bool.not_eq_true', decide_eq_true_eq] at hkd
          refine va_put (D := D) (ci := ci) (v := .int y) (ty := .boolean) hx hb hts hin ty hty hnm hown hK hP hD hS i he hc k hk (hts _ hlink) (fun _ h9 => h9) hkd.1 hkd.2 (by rcases hy with rfl | rfl <;> rfl) (by rcases hy with rfl | rfl <;> rfl) hl9 hd (fun H1 locs1 hP1 hD1 hS1 => ?_)
          rw [hset _ hq (fun _ => rfl)] at hP1 hD1
          exact K H1 locs1 lsA hl hP1 hD1 hS1
        · cases h
      · cases h
    · cases h
  · rename_i ci k y i r
    split at h
    · rename_i hsh
      obtain ⟨⟨C, T, n⟩, hc, hk, hlink, hin⟩ := hF ci k rfl
      have hi : i < N := pm_lt hN (by rw [hsh]; simp)
      have he := pm_W_obj (lay := lay) (cy := cy) (σ := σ) hi hsh
      obtain ⟨hlen, ⟨ty, hty⟩, hnm, -⟩ := pm_cl ci _ hc
      have hl9 : k < (pm_fs lay σ i 0 (pm_fk ci)).length := by rw [pm_fs_len, hlen]; exact hk
      split at h
      · rename_i hq
        cases h
        have hkd := pm_kd_at hc hk hq
        simp only [pm_kd, Bool.and_eq_true, Bool.not_eq_true', decide_eq_true_eq] at hkd
        have hset : (pm_W lay cy sh N σ).set i (lay i, .inr (ci, (pm_fs lay σ i 0 (pm_fk ci)).set k (.long y))) = pm_W lay cy sh N (σ.1, pm_uj σ.2 i k y) := by
          refine pm_W_set (σ := σ) (σ' := (σ.1, pm_uj σ.2 i k y)) hi (fun j hj => ⟨rfl, pm_uj_n hj⟩) ?_
          rw [pm_E_obj hsh, pm_fs_set (lay := lay) (σ := σ) (σ' := (σ.1, pm_uj σ.2 i k y)) (i := i) (v := .long y) _ 0 k _ hq (by rw [Nat.zero_add]; exact congrArg Value.long pm_uj_e) (fun k' hk' => ⟨rfl, pm_uj_o (by omega)⟩)]
        refine va_put (D := D) (ci := ci) (v := .long y) (ty := .long) hx hb hts hin ty hty hnm hown hK hP hD hS i he hc k hk (hts _ hlink) (fun _ h9 => h9) hkd.1 hkd.2 rfl rfl hl9 hd (fun H1 locs1 hP1 hD1 hS1 => ?_)
        rw [hset] at hP1 hD1
        exact K H1 locs1 lsA hl hP1 hD1 hS1
      · cases h
    · cases h
  · cases h
theorem pi_ial (hx : p.tables.exec = Jvm.exec) (hb : c.code = cc) (hK : va_K D vwCl (pm_T cy) s) (hN : ∀ i, N ≤ i → sh i = .inr (9, 0)) (hd : decode cc pc = .ok (.iaload, 1)) (h : pm_ial sh (pc + 1) ls st σ = some (.inl x)) (K : pm_G p l e R s m args below meth c Q D lay cy sh N nL A x) : pm_G p l e R s m args below meth c Q D lay cy sh N nL A (pc, ls, st, σ) := by
  intro H locs lsA hl hP hD hS
  unfold pm_ial at h
  split at h
  · rename_i j i r
    split at h
    · rename_i n hsh
      split at h
      · cases h
      · rename_i hin
        cases h
        exact va_iald hx hb hK hP i 0 (pm_W_int (pm_lt hN (by rw [hsh]; simp)) hsh) rfl hin hd (K H locs lsA hl hP hD hS)
    · cases h
  · cases h
theorem pi_zal (hx : p.tables.exec = Jvm.exec) (hb : c.code = cc) (hK : va_K D vwCl (pm_T cy) s) (hN : ∀ i, N ≤ i → sh i = .inr (9, 0)) (hd : decode cc pc = .ok (.baload, 1)) (h : pm_zal sh (pc + 1) ls st σ = some (.inl x)) (K : pm_G p l e R s m args below meth c Q D lay cy sh N nL A x) : pm_G p l e R s m args below meth c Q D lay cy sh N nL A (pc, ls, st, σ) := by
  intro H locs lsA hl hP hD hS
  unfold pm_zal at h
  split at h
  · rename_i j i r
    split at h
    · rename_i n hsh
      split at h
      · cases h
      · rename_i hin
        cases h
        exact va_zald hx hb hK hP i 2 (pm_W_boo (pm_lt hN (by rw [hsh]; simp)) hsh) rfl hin hd (K H locs lsA hl hP hD hS)
    · cases h
  · cases h
theorem pi_lal (hx : p.tables.exec = Jvm.exec) (hb : c.code = cc) (hK : va_K D vwCl (pm_T cy) s) (hN : ∀ i, N ≤ i → sh i = .inr (9, 0)) (hd : decode cc pc = .ok (.laload, 1)) (h : pm_lal sh (pc + 1) ls st σ = some (.inl x)) (K : pm_G p l e R s m args below meth c Q D lay cy sh N nL A x) : pm_G p l e R s m args below meth c Q D lay cy sh N nL A (pc, ls, st, σ) := by
  intro H locs lsA hl hP hD hS
  unfold pm_lal at h
  split at h
  · rename_i j i r
    split at h
    · rename_i n hsh
      split at h
      · cases h
      · rename_i hin
        cases h
        exact va_lald hx hb hK hP i 1 (pm_W_lng (pm_lt hN (by rw [hsh]; simp)) hsh) rfl hin hd (K H locs lsA hl hP hD hS)
    · cases h
  · cases h
theorem pi_aal (hx : p.tables.exec = Jvm.exec) (hb : c.code = cc) (hK : va_K D vwCl (pm_T cy) s) (hN : ∀ i, N ≤ i → sh i = .inr (9, 0)) (hd : decode cc pc = .ok (.aaload, 1)) (h : pm_aal sh (pc + 1) ls st σ = some (.inl x)) (K : pm_G p l e R s m args below meth c Q D lay cy sh N nL A x) : pm_G p l e R s m args below meth c Q D lay cy sh N nL A (pc, ls, st, σ) := by
  intro H locs lsA hl hP hD hS
  unfold pm_aal at h
  split at h
  · rename_i j i r
    split at h
    · rename_i n hsh
      split at h
      · cases h
      · rename_i hin
        cases h
        exact va_aldq hx hb hK hP i 3 (pm_W_ref (pm_lt hN (by rw [hsh]; simp)) hsh) rfl hin hd (K H locs lsA hl hP hD hS)
    · cases h
  · cases h
theorem pi_ias (hx : p.tables.exec = Jvm.exec) (hb : c.code = cc) (hK : va_K D vwCl (pm_T cy) s) (hN : ∀ i, N ≤ i → sh i = .inr (9, 0)) (hd : decode cc pc = .ok (.iastore, 1)) (h : pm_ias sh (pc + 1) ls st σ = some (.inl x)) (K : pm_G p l e R s m args below meth c Q D lay cy sh N nL A x) : pm_G p l e R s m args below meth c Q D lay cy sh N nL A (pc, ls, st, σ) := by
  intro H locs lsA hl hP hD hS
  unfold pm_ias at h
  split at h
  · rename_i y j i r
    split at h
    · rename_i n hsh
      split at h
      · cases h
      · rename_i hin
        cases h
        have hi : i < N := pm_lt hN (by rw [hsh]; simp)
        refine va_iast hx hb hK hP hD hS i 0 (pm_W_int hi hsh) rfl hin hd (fun H1 locs1 hP1 hD1 hS1 => ?_)
        have hset : (pm_W lay cy sh N σ).set i (lay i, .inl (cy 0, n, .inl (upd (σ.1 i) j.toNatClampNeg y))) = pm_W lay cy sh N (pm_ui σ.1 i j.toNatClampNeg y, σ.2) := by
          refine pm_W_set (σ := σ) (σ' := (pm_ui σ.1 i j.toNatClampNeg y, σ.2)) hi (fun a ha => ⟨pm_ui_n ha, rfl⟩) ?_
          rw [pm_E_int hsh]
          exact congrArg (fun f => Sum.inl (cy 0, n, Sum.inl f)) pm_ui_s.symm
        rw [hset] at hP1 hD1
        exact K H1 locs1 lsA hl hP1 hD1 hS1
    · cases h
  · cases h
theorem pi_zas (hx : p.tables.exec = Jvm.exec) (hb : c.code = cc) (hK : va_K D vwCl (pm_T cy) s) (hN : ∀ i, N ≤ i → sh i = .inr (9, 0)) (hd : decode cc pc = .ok (.bastore, 1)) (h : pm_zas sh (pc + 1) ls st σ = some (.inl x)) (K : pm_G p l e R s m args below meth c Q D lay cy sh N nL A x) : pm_G p l e R s m args below meth c Q D lay cy sh N nL A (pc, ls, st, σ) := by
  intro H locs lsA hl hP hD hS
  unfold pm_zas at h
  split at h
  · rename_i y j i r
    split at h
    · rename_i n hsh
      split at h
      · cases h
      · rename_i hin
        split at h
        · rename_i hy
          cases h
          have hi : i < N := pm_lt hN (by rw [hsh]; simp)
          have hyn : vp_nar .boolean y = y := by rcases hy with rfl | rfl <;> rfl
          refine va_zast hx hb hK hP hD hS i 2 (pm_W_boo hi hsh) rfl hin hd (fun H1 locs1 hP1 hD1 hS1 => ?_)
          rw [hyn] at hP1 hD1
          have hset : (pm_W lay cy sh N σ).set i (lay i, .inl (cy 2, n, .inl (upd (σ.1 i) j.toNatClampNeg y))) = pm_W lay cy sh N (pm_ui σ.1 i j.toNatClampNeg y, σ.2) := by
            refine pm_W_set (σ := σ) (σ' := (pm_ui σ.1 i j.toNatClampNeg y, σ.2)) hi (fun a ha => ⟨pm_ui_n ha, rfl⟩) ?_
            rw [pm_E_boo hsh]
            exact congrArg (fun f => Sum.inl (cy 2, n, Sum.inl f)) pm_ui_s.symm
          rw [hset] at hP1 hD1
          exact K H1 locs1 lsA hl hP1 hD1 hS1
        · cases h
    · cases h
  · cases h
theorem pi_las (hx : p.tables.exec = Jvm.exec) (hb : c.code = cc) (hK : va_K D vwCl (pm_T cy) s) (hN : ∀ i, N ≤ i → sh i = .inr (9, 0)) (hd : decode cc pc = .ok (.lastore, 1)) (h : pm_las sh (pc + 1) ls st σ = some (.inl x)) (K : pm_G p l e R s m args below meth c Q D lay cy sh N nL A x) : pm_G p l e R s m args below meth c Q D lay cy sh N nL A (pc, ls, st, σ) := by
  intro H locs lsA hl hP hD hS
  unfold pm_las at h
  split at h
  · rename_i y j i r
    split at h
    · rename_i n hsh
      split at h
      · cases h
      · rename_i hin
        cases h
        have hi : i < N := pm_lt hN (by rw [hsh]; simp)
        refine va_last hx hb hK hP hD hS i 1 (pm_W_lng hi hsh) rfl hin hd (fun H1 locs1 hP1 hD1 hS1 => ?_)
        have hset : (pm_W lay cy sh N σ).set i (lay i, .inl (cy 1, n, .inr (.inl (vp_updL (σ.2 i) j.toNatClampNeg y)))) = pm_W lay cy sh N (σ.1, pm_uj σ.2 i j.toNatClampNeg y) := by
          refine pm_W_set (σ := σ) (σ' := (σ.1, pm_uj σ.2 i j.toNatClampNeg y)) hi (fun a ha => ⟨rfl, pm_uj_n ha⟩) ?_
          rw [pm_E_lng hsh]
          exact congrArg (fun f => Sum.inl (cy 1, n, Sum.inr (Sum.inl f))) pm_uj_s.symm
        rw [hset] at hP1 hD1
        exact K H1 locs1 lsA hl hP1 hD1 hS1
    · cases h
  · cases h
theorem pi_al (hx : p.tables.exec = Jvm.exec) (hb : c.code = cc) (hK : va_K D vwCl (pm_T cy) s) (hN : ∀ i, N ≤ i → sh i = .inr (9, 0)) (hd : decode cc pc = .ok (.arraylength, 1)) (h : pm_al sh (pc + 1) ls st σ = some (.inl x)) (K : pm_G p l e R s m args below meth c Q D lay cy sh N nL A x) : pm_G p l e R s m args below meth c Q D lay cy sh N nL A (pc, ls, st, σ) := by
  intro H locs lsA hl hP hD hS
  unfold pm_al at h
  split at h
  · rename_i i r
    split at h
    · rename_i n hsh
      cases h
      exact va_alen hx hb hK hP i 0 (pm_W_int (pm_lt hN (by rw [hsh]; simp)) hsh) rfl rfl hd (K H locs lsA hl hP hD hS)
    · rename_i n hsh
      cases h
      exact va_alen hx hb hK hP i 1 (pm_W_lng (pm_lt hN (by rw [hsh]; simp)) hsh) rfl rfl hd (K H locs lsA hl hP hD hS)
    · cases h
  · cases h
end PMH
end
section
/-! ===== contracts over the pure machine, and calls ===== -/
/-- the contract of a method: where the pure function answers, the method returns so, over any layout of the cells -/
def pm_Con (l : Launch) (y : MethodName) (ws : List Cond) (rm : Room) (sh : pSH) (N : Nat) (f : pFN) : Prop :=
  ∀ (D : va_G) (lay : Nat → Nat) (cy : Nat → ClassId) (sz : Nat) (σ : pST) (vs : List pSV) (σ' : pST) (r : Option pSV), f σ vs = some (σ', r) →
    Met l y ws rm (va_Pc (vs.map (pm_v lay)) (fun U => U.heap.size = sz ∧ va_P D vwCl (pm_W lay cy sh N σ) U.heap ∧ va_K D vwCl (pm_T cy) U ∧ va_D (fun _ => True) (pm_W lay cy sh N σ))) (pm_Q lay cy sh N D (va_A (pm_W lay cy sh N σ) sz) σ' r) 0 0 (va_A (pm_W lay cy sh N σ) sz)
/-- a call of an object's method, in a method with the words ws, the room rm, the class own -/
def pm_CalV (l : Launch) (ws : List Cond) (rm : Room) (own : String) (sh : pSH) (N idx a ci : Nat) (f : pFN) : Prop :=
  ∃ (y : MethodName) (ws1 ws1' : List Cond) (rm1 : Room) (bytes : ByteArray) (maxL : Nat) (ret : Option FieldType) (q : vw_C), pm_Con l y ws1 rm1 sh N f ∧ (∀ σ vs x, f σ vs = some x → ∃ i vs', vs = .inr (.inr i) :: vs' ∧ sh i = .inl ci) ∧ vwCl[ci]? = some q ∧ GoodIn ws (wsV own idx q.1 y ws1) ∧ ws1 = Cond.code y bytes maxL ret :: ws1' ∧ rm1.cells = 0 ∧ rm1.slots = 0 ∧ (y.cls = q.1 ∧ y.cls ≠ "java/lang/invoke/MethodHandle" ∧ y.cls ≠ "java/lang/invoke/VarHandle" ∧ (parseMethodDescriptor y.desc).map (fun d => d.parameters.length + 1) = some a) ∧ (rm1.frames + 1 ≤ rm.frames ∧ 8 + (maxL + 11) + rm1.locals ≤ rm.locals)
def pm_CalS (l : Launch) (ws : List Cond) (rm : Room) (own : String) (sh : pSH) (N idx a : Nat) (f : pFN) : Prop :=
  ∃ (y : MethodName) (ws1 ws1' : List Cond) (rm1 : Room) (bytes : ByteArray) (maxL : Nat) (ret : Option FieldType), pm_Con l y ws1 rm1 sh N f ∧ GoodIn ws (va_wsS own idx y ws1) ∧ ws1 = Cond.code y bytes maxL ret :: ws1' ∧ rm1.cells = 0 ∧ rm1.slots = 0 ∧ (y.cls ≠ "java/lang/invoke/MethodHandle" ∧ y.cls ≠ "java/lang/invoke/VarHandle" ∧ (parseMethodDescriptor y.desc).map (fun d => d.parameters.length) = some a) ∧ (rm1.frames + 1 ≤ rm.frames ∧ 8 + (maxL + 11) + rm1.locals ≤ rm.locals)
/-- System.arraycopy of rows of longs -/
def pm_cpy (sh : pSH) : pFN := fun σ vs => match vs with
  | [.inr (.inr a0), .inl sp, .inr (.inr a1), .inl dp, .inl n] => (match sh a0, sh a1 with
    | .inr (1, n0), .inr (1, n1) => if sp < 0 ∨ dp < 0 ∨ n < 0 ∨ n0 < sp.toNatClampNeg + n.toNatClampNeg ∨ n1 < dp.toNatClampNeg + n.toNatClampNeg then none else some ((σ.1, fun a => if a = a1 then va_cpy (σ.2 a0) (σ.2 a1) sp.toNatClampNeg dp.toNatClampNeg n.toNatClampNeg else σ.2 a), none)
    | _, _ => none)
  | _ => none
def pm_CalC (ws : List Cond) (rm : Room) (own : String) (sh : pSH) (idx a : Nat) (f : pFN) : Prop :=
  f = pm_cpy sh ∧ a = 5 ∧ Cond.methodLink own idx arraycopyName ∈ ws ∧ Cond.native arraycopyName ∈ ws ∧ Cond.static arraycopyName ∈ ws ∧ Cond.initialized "java/lang/System" ∈ ws ∧ 1 ≤ rm.frames ∧ 8 + (nativeFrameWords "java/lang/System" "arraycopy" 5 + 11) ≤ rm.locals
def pm_Cal (l : Launch) (ws : List Cond) (rm : Room) (own : String) (sh : pSH) (N idx a : Nat) (rc : Option Nat) (f : pFN) : Prop := match rc with
  | some ci => pm_CalV l ws rm own sh N idx a ci f
  | none => pm_CalS l ws rm own sh N idx a f ∨ pm_CalC ws rm own sh idx a f
theorem pm_free {A : Nat → Prop} {lay : Nat → Nat} {cy : Nat → ClassId} {sh : pSH} {N : Nat} {σ : pST} {H0 H : Heap} {locs : List Loc} (hD : va_D A (pm_W lay cy sh N σ)) (hS : va_S A H0 H locs) (hA : ∀ q, H0.size ≤ q → A q) : ∀ q, va_A (pm_W lay cy sh N σ) H.size q → A q := by
  intro q h
  rcases h with ⟨k, e, h⟩ | h
  · exact hD.2 k (q, e) h
  · exact hA q (Nat.le_trans hS.1 h)
section PMC
variable {p : Program} {l : Launch} {e : Env} {R : Room} {s : State} {m : MethodId} {args : Array Value} {below : List Frame} {meth : Method} {c : Code} {Q : State → Prop}
variable {D : va_G} {lay : Nat → Nat} {cy : Nat → ClassId} {sh : pSH} {N nL : Nat} {A : Nat → Prop} {cc : ByteArray} {pc : Nat} {ls : pLS} {st : List pSV} {σ : pST} {x : pNX}
variable {own : String} {Ts : List Cond}
theorem pm_goes {H : Heap} {locs : List Loc} {lsA : Array Slot} {st0 rest : List Value} {a : Array Value} {A1 : Nat → Prop} {free : Addr → Prop} {σ' : pST} {r : Option pSV} (hr : va_Run p l e R s m args below meth c H locs 0 0 0 0 (F0 m pc lsA st0) rest (pm_Q lay cy sh N D A1 σ' r a) free) (hS : va_S A s.heap H locs) (hA : ∀ q, q < H.size → A1 q → A q) (hf : ∀ q, free q → A q)
    (kk : ∀ (H1 : Heap) (locs1 : List Loc), va_P D vwCl (pm_W lay cy sh N σ') H1 → va_S A s.heap H1 locs1 → W p l e R s m args below meth c H1 locs1 0 0 Q (F0 m (pc + 3) lsA ((r.map (pm_v lay)).toList ++ rest))) : W p l e R s m args below meth c H locs 0 0 Q (F0 m pc lsA st0) := by
  intro T hT X
  obtain ⟨v, st₀, t, T', L, h0, X', hL, e1, e2, ⟨⟨hv, hp⟩, hz, hk⟩, st⟩ := hr T hT X
  cases hv
  rw [h0] at hz hk
  obtain ⟨t2, a1, b1⟩ := kk T'.heap (locs ++ L) (by rw [e1]; exact hp)
    ⟨Nat.le_trans hS.1 (by rw [e1]; exact hz), fun q h1 h2 => by rw [e1, hk q (Nat.lt_of_lt_of_le h1 hS.1) (fun z => h2 (hA q (Nat.lt_of_lt_of_le h1 hS.1) z))]; exact hS.2.1 q h1 h2, fun q hq => by
      rcases List.mem_append.mp hq with h | h
      · exact hS.2.2 q h
      · exact hf _ (hL q h)⟩ T' rfl X'
  exact ⟨t2, st t2 a1, b1⟩
theorem pm_blind {D : va_G} {lay : Nat → Nat} {cy : Nat → ClassId} {sh : pSH} {N sz : Nat} {σ : pST} {vs : List pSV} : FrameBlind (va_Pc (vs.map (pm_v lay)) (fun U => U.heap.size = sz ∧ va_P D vwCl (pm_W lay cy sh N σ) U.heap ∧ va_K D vwCl (pm_T cy) U ∧ va_D (fun _ => True) (pm_W lay cy sh N σ))) := fun a U g mk q => by
  obtain ⟨q0, q1, qP, qK, qD⟩ := q
  exact ⟨q0, q1, qP, va_K.moved (u := U) (U := U.calling g mk a) (Vm.Alike.refl U.vm) qK, qD⟩
theorem pm_weak {A : Nat → Prop} {ws : va_W} (hD : va_D A ws) : va_D (fun _ => True) ws := hD.weaken (fun _ _ _ _ => trivial)
theorem pm_sumw (lay : Nat → Nat) (st : List pSV) : ((st.map (pm_v lay)).map fun v => v.category).sum = pm_cs st := by
  unfold pm_cs
  rw [List.map_map]
  congr 2
  funext v
  exact pm_cat lay v
theorem pi_callV (hx : p.tables.exec = Jvm.exec) (hb : c.code = cc) (hml : c.maxLocals = nL) (hown : s.vm.findClass own = some m.cls) (hts : ∀ w ∈ Ts, w.before args s = true) (hK : va_K D vwCl (pm_T cy) s) (hN : ∀ i, N ≤ i → sh i = .inr (9, 0)) (hA : ∀ q, s.heap.size ≤ q → A q) {idx : Nat} {q : Option (Nat × (Option Nat × pFN))} (hC : ∀ a rc f, q = some (a, rc, f) → pm_Cal l Ts R own sh N idx a rc f) (hd : decode cc pc = .ok (.invokevirtual idx, 3)) (h : pm_call q false pc ls st σ = some (.inl x)) (K : pm_G p l e R s m args below meth c Q D lay cy sh N nL A x) : pm_G p l e R s m args below meth c Q D lay cy sh N nL A (pc, ls, st, σ) := by
  intro H locs lsA hl hP hD hS
  unfold pm_call at h
  split at h
  · rename_i a rc f
    split at h
    · rename_i hc
      obtain ⟨h1, h2, h3⟩ := hc
      split at h
      · rename_i σ' r hf
        cases h
        rcases rc with _ | ci
        · simp at h3
        · obtain ⟨y, ws1, ws1', rm1, bytes, maxL, ret, qc, hCon, hrecv, hcl, hG, hw, hrc, hrs, hd9, hR⟩ := hC a (some ci) f rfl
          obtain ⟨i, vs', hvs, hsh⟩ := hrecv _ _ _ hf
          have hM := hCon D lay cy H.size σ _ σ' r hf
          rw [hvs] at hM
          have hst : st = vs'.reverse ++ .inr (.inr i) :: st.drop a := by
            have e1 : st.take a = vs'.reverse ++ [.inr (.inr i)] := by
              have := congrArg List.reverse hvs
              rw [List.reverse_reverse, List.reverse_cons] at this
              exact this
            calc st = st.take a ++ st.drop a := (List.take_append_drop a st).symm
              _ = _ := by rw [e1, List.append_assoc]; rfl
          have hlen : vs'.length + 1 = a := by
            have := congrArg List.length hvs
            rw [List.length_reverse, List.length_take, List.length_cons] at this
            omega
          have hrow : (parseMethodDescriptor y.desc).map (fun d => d.parameters.length) = some vs'.length := by
            have h9 := hd9.2.2.2
            cases hp : parseMethodDescriptor y.desc with
            | none => rw [hp] at h9; cases h9
            | some d =>
              rw [hp] at h9
              simp only [Option.map_some, Option.some.injEq] at h9 ⊢
              omega
          have hstk : st.map (pm_v lay) = (vs'.map (pm_v lay)).reverse ++ .ref (lay i) :: (st.drop a).map (pm_v lay) := by
            have := congrArg (List.map (pm_v lay)) hst
            rw [List.map_append, List.map_reverse, List.map_cons] at this
            exact this
          have hrun := va_runV (p := p) (l := l) (e := e) (R := R) (s := s) (m := m) (args := args) (below := below) (meth := meth) (c := c) (H := H) (locs := locs) (cells := 0) (slots := 0) (g := F0 m pc lsA (st.map (pm_v lay))) (As := vs'.map (pm_v lay)) (rest := (st.drop a).map (pm_v lay)) (b := lay i) ⟨hx, hb, hml, hown, hts⟩ hM (cwV vs'.length hts hG hw hrc hrs ⟨hd9.1, hd9.2.1, hd9.2.2.1, hrow⟩ hR) ⟨pm_blind (vs := .inr (.inr i) :: vs'), va_recv hK hP hcl (pm_W_obj (pm_lt hN (by rw [hsh]; simp)) hsh), fun U hU hW => ⟨rfl, by rw [hU], by rw [hU]; exact hP, va_K.moved hW.alike hK, pm_weak hD⟩⟩ rfl (by simp) hl.1 hstk (lv_room (by rw [pm_sumw]; exact h2)) hd ⟨Nat.zero_le _, Nat.zero_le _⟩
          refine pm_goes (A := A) hrun hS (fun z _ hz => pm_free hD hS hA z hz) (fun z hz => pm_free hD hS hA z hz) (fun H1 locs1 hP1 hS1 => ?_)
          have K9 := K H1 locs1 lsA hl hP1 (pm_D σ' hD) hS1
          have e9 : (r.map (pm_v lay)).toList ++ (st.drop a).map (pm_v lay) = (r.toList ++ st.drop a).map (pm_v lay) := by
            cases r <;> simp
          rw [e9]
          exact K9
      · cases h
    · cases h
  · cases h
theorem pi_callS (hx : p.tables.exec = Jvm.exec) (hb : c.code = cc) (hml : c.maxLocals = nL) (hown : s.vm.findClass own = some m.cls) (hts : ∀ w ∈ Ts, w.before args s = true) (hK : va_K D vwCl (pm_T cy) s) (hN : ∀ i, N ≤ i → sh i = .inr (9, 0)) (hA : ∀ q, s.heap.size ≤ q → A q) {idx : Nat} {q : Option (Nat × (Option Nat × pFN))} (hC : ∀ a rc f, q = some (a, rc, f) → pm_Cal l Ts R own sh N idx a rc f) (hd : decode cc pc = .ok (.invokestatic idx, 3)) (h : pm_call q true pc ls st σ = some (.inl x)) (K : pm_G p l e R s m args below meth c Q D lay cy sh N nL A x) : pm_G p l e R s m args below meth c Q D lay cy sh N nL A (pc, ls, st, σ) := by
  intro H locs lsA hl hP hD hS
  unfold pm_call at h
  split at h
  · rename_i a rc f
    split at h
    · rename_i hc
      obtain ⟨h1, h2, h3⟩ := hc
      split at h
      · rename_i σ' r hf
        cases h
        rcases rc with _ | ci
        · rcases hC a none f rfl with ⟨y, ws1, ws1', rm1, bytes, maxL, ret, hCon, hG, hw, hrc, hrs, hd9, hR⟩ | ⟨rfl, rfl, hl1, hl2, hl3, hl4, hl5, hl6⟩
          · have hM := hCon D lay cy H.size σ _ σ' r hf
            have hstk : st.map (pm_v lay) = ((st.take a).reverse.map (pm_v lay)).reverse ++ (st.drop a).map (pm_v lay) := by
              rw [← List.map_reverse, List.reverse_reverse, ← List.map_append, List.take_append_drop]
            have hn : ((st.take a).reverse.map (pm_v lay)).length = a := by
              rw [List.length_map, List.length_reverse, List.length_take]
              omega
            have hrun := va_runS (p := p) (l := l) (e := e) (R := R) (s := s) (m := m) (args := args) (below := below) (meth := meth) (c := c) (H := H) (locs := locs) (cells := 0) (slots := 0) (g := F0 m pc lsA (st.map (pm_v lay))) (As := (st.take a).reverse.map (pm_v lay)) (rest := (st.drop a).map (pm_v lay)) ⟨hx, hb, hml, hown, hts⟩ hM (va_cwS a hts hG hw hrc hrs hd9 hR) ⟨pm_blind, fun U hU hW => ⟨rfl, by rw [hU], by rw [hU]; exact hP, va_K.moved hW.alike hK, pm_weak hD⟩⟩ rfl hn hl.1 hstk (lv_room (by rw [pm_sumw]; exact h2)) hd ⟨Nat.zero_le _, Nat.zero_le _⟩
            refine pm_goes (A := A) hrun hS (fun z _ hz => pm_free hD hS hA z hz) (fun z hz => pm_free hD hS hA z hz) (fun H1 locs1 hP1 hS1 => ?_)
            have K9 := K H1 locs1 lsA hl hP1 (pm_D σ' hD) hS1
            have e9 : (r.map (pm_v lay)).toList ++ (st.drop a).map (pm_v lay) = (r.toList ++ st.drop a).map (pm_v lay) := by
              cases r <;> simp
            rw [e9]
            exact K9
          · unfold pm_cpy at hf
            split at hf
            · rename_i a0 sp a1 dp n hvs
              split at hf
              · rename_i n0 n1 hs0 hs1
                split at hf
                · cases hf
                · rename_i hok
                  cases hf
                  have e1 : st.take 5 = [.inl n, .inl dp, .inr (.inr a1), .inl sp, .inr (.inr a0)] := by
                    have := congrArg List.reverse hvs
                    rw [List.reverse_reverse] at this
                    exact this
                  have hst : st = .inl n :: .inl dp :: .inr (.inr a1) :: .inl sp :: .inr (.inr a0) :: st.drop 5 := by
                    calc st = st.take 5 ++ st.drop 5 := (List.take_append_drop 5 st).symm
                      _ = _ := by rw [e1]; rfl
                  have hstk : st.map (pm_v lay) = .int n :: .int dp :: .ref (lay a1) :: .int sp :: .ref (lay a0) :: (st.drop 5).map (pm_v lay) := congrArg (List.map (pm_v lay)) hst
                  show W p l e R s m args below meth c H locs 0 0 Q (F0 m pc lsA (st.map (pm_v lay)))
                  rw [hstk]
                  have hi : a1 < N := pm_lt hN (by rw [hs1]; simp)
                  refine va_copyl hx hb (hml.trans hl.1.symm) hown (hts _ hl1) (hts _ hl2) (hts _ hl3) (hts _ hl4) hK hP hD hS a0 a1 1 1 (pm_W_lng (pm_lt hN (by rw [hs0]; simp)) hs0) (pm_W_lng hi hs1) rfl rfl rfl (fun z => hok (Or.inl z)) (fun z => hok (Or.inr (Or.inl z))) (fun z => hok (Or.inr (Or.inr (Or.inl z)))) (Nat.not_lt.mp fun z => hok (Or.inr (Or.inr (Or.inr (Or.inl z))))) (Nat.not_lt.mp fun z => hok (Or.inr (Or.inr (Or.inr (Or.inr z))))) (fun i _ => rfl) hl5 (by rw [pm_sumw]; omega) hd (fun H1 locs1 hP1 hD1 hS1 => ?_)
                  have hset : (pm_W lay cy sh N σ).set a1 (lay a1, .inl (cy 1, n1, .inr (.inl (va_cpy (σ.2 a0) (σ.2 a1) sp.toNatClampNeg dp.toNatClampNeg n.toNatClampNeg)))) = pm_W lay cy sh N (σ.1, fun a => if a = a1 then va_cpy (σ.2 a0) (σ.2 a1) sp.toNatClampNeg dp.toNatClampNeg n.toNatClampNeg else σ.2 a) := by
                    refine pm_W_set (σ := σ) (σ' := (σ.1, fun a => if a = a1 then va_cpy (σ.2 a0) (σ.2 a1) sp.toNatClampNeg dp.toNatClampNeg n.toNatClampNeg else σ.2 a)) hi (fun b hb9 => ⟨rfl, by simp [hb9]⟩) ?_
                    rw [pm_E_lng hs1]
                    simp
                  rw [hset] at hP1 hD1
                  exact K H1 locs1 lsA hl hP1 hD1 hS1
              · cases hf
            · cases hf
        · simp at h3
      · cases h
    · cases h
  · cases h
theorem pi_ret {free : Addr → Prop} {rt k : Nat} {σ' : pST} {r : Option pSV} {ins : Instr} (hx : p.tables.exec = Jvm.exec) (hb : c.code = cc) (hr : meth.sig.returnType = pm_rt rt) (hlocks : meth.locks = false) (hfr : ∀ q, A q → free q) (hk : (k = 0 ∧ ins = .return_) ∨ (k = 1 ∧ ins = .ireturn) ∨ (k = 2 ∧ ins = .lreturn)) (hd : decode cc pc = .ok (ins, 1)) (h : pm_ret rt k st σ = some (.inr (σ', r))) : pm_G p l e R s m args below meth c (MQ below (pm_Q lay cy sh N D A σ' r) args s 0 0 free) D lay cy sh N nL A (pc, ls, st, σ) := by
  intro H locs lsA hl hP hD hS
  unfold pm_ret at h
  split at h
  · cases h
    have e : ins = .return_ := by rcases hk with ⟨_, e⟩ | ⟨e, _⟩ | ⟨e, _⟩; exact e; cases e; cases e
    subst e
    exact W.vret hx hb hr (fun t ht hW => ⟨⟨rfl, by rw [ht]; exact hP⟩, hS.F ht⟩) (fun q hq => hfr _ (hS.2.2 q hq)) hd hlocks
  · cases h
    have e : ins = .ireturn := by rcases hk with ⟨e, _⟩ | ⟨_, e⟩ | ⟨e, _⟩; cases e; exact e; cases e
    subst e
    exact W.iret hx hb hr (fun t ht hW => ⟨⟨rfl, by rw [ht]; exact hP⟩, hS.F ht⟩) (fun q hq => hfr _ (hS.2.2 q hq)) hd hlocks
  · split at h
    · rename_i hy
      cases h
      have e : ins = .ireturn := by rcases hk with ⟨e, _⟩ | ⟨_, e⟩ | ⟨e, _⟩; cases e; exact e; cases e
      subst e
      exact W.zret hx hb hr (by rcases hy with rfl | rfl <;> rfl) (fun t ht hW => ⟨⟨rfl, by rw [ht]; exact hP⟩, hS.F ht⟩) (fun q hq => hfr _ (hS.2.2 q hq)) hd hlocks
    · cases h
  · cases h
    have e : ins = .lreturn := by rcases hk with ⟨e, _⟩ | ⟨e, _⟩ | ⟨_, e⟩; cases e; cases e; exact e
    subst e
    exact W.lret hx hb hr (fun t ht hW => ⟨⟨rfl, by rw [ht]; exact hP⟩, hS.F ht⟩) (fun q hq => hfr _ (hS.2.2 q hq)) hd hlocks
  · cases h
end PMC
end
section
/-! ===== the pure machine is sound ===== -/
def pm_tok (pc : Nat) (ins : Instr) (len : Nat) : Bool := (decide (pm_len ins = 0) || decide (len = pm_len ins)) && (match ins with
  | .ifCond _ off => decide (0 ≤ (pc : Int) + off)
  | .if_icmp _ off => decide (0 ≤ (pc : Int) + off)
  | _ => true)
def pm_Kok (Ts : List Cond) (own : String) (idx : Nat) (v : Int32 ⊕ Int64) : Prop := match v with
  | .inl x => Cond.constant own idx x ∈ Ts
  | .inr x => Cond.constantLong own idx x ∈ Ts
theorem pm_tok_len {pc len : Nat} {ins : Instr} (n : Nat) (hn : pm_len ins = n) (h0 : n ≠ 0) (h : pm_tok pc ins len = true) : len = n := by
  unfold pm_tok at h
  simp only [Bool.and_eq_true, Bool.or_eq_true, decide_eq_true_eq] at h
  rcases h.1 with q | q
  · omega
  · omega
theorem pm_tok_if {pc len : Nat} {cd : ClassFile.Cond} {off : Int} (h : pm_tok pc (.ifCond cd off) len = true) : (pc : Int) + off = ((((pc : Int) + off).toNat : Nat) : Int) := by
  unfold pm_tok at h
  simp only [Bool.and_eq_true, decide_eq_true_eq] at h
  exact pm_jt h.2
theorem pm_tok_ic {pc len : Nat} {cd : ClassFile.Cond} {off : Int} (h : pm_tok pc (.if_icmp cd off) len = true) : (pc : Int) + off = ((((pc : Int) + off).toNat : Nat) : Int) := by
  unfold pm_tok at h
  simp only [Bool.and_eq_true, decide_eq_true_eq] at h
  exact pm_jt h.2
theorem pm_ret_nl {rt k : Nat} {st : List pSV} {σ : pST} {x : pNX} (h : pm_ret rt k st σ = some (.inl x)) : False := by
  unfold pm_ret at h
  repeat' split at h
  all_goals cases h
section PMZ
variable {p : Program} {l : Launch} {e : Env} {R : Room} {s : State} {m : MethodId} {args : Array Value} {below : List Frame} {meth : Method} {c : Code} {Q : State → Prop}
variable {D : va_G} {lay : Nat → Nat} {cy : Nat → ClassId} {sh : pSH} {N nL rt : Nat} {A : Nat → Prop} {cc : ByteArray} {pc : Nat} {ls : pLS} {st : List pSV} {σ : pST} {x : pNX}
variable {own : String} {Ts : List Cond} {fld : Nat → Option (Nat × Nat)} {cst : Nat → Option (Int32 ⊕ Int64)} {cal : pCL} {tab : Nat → Option (Instr × Nat)}
set_option maxHeartbeats 4000000 in
theorem pm_step (hx : p.tables.exec = Jvm.exec) (hb : c.code = cc) (hml : c.maxLocals = nL) (hown : s.vm.findClass own = some m.cls) (hts : ∀ w ∈ Ts, w.before args s = true) (hK : va_K D vwCl (pm_T cy) s) (hN : ∀ i, N ≤ i → sh i = .inr (9, 0)) (hA : ∀ q, s.heap.size ≤ q → A q) (hfld : ∀ idx ci k, fld idx = some (ci, k) → pm_Fok Ts own idx ci k) (hcst : ∀ idx v, cst idx = some v → pm_Kok Ts own idx v) (hcal : ∀ idx a rc f, cal idx = some (a, rc, f) → pm_Cal l Ts R own sh N idx a rc f) {ins : Instr} {len : Nat} (hd : decode cc pc = .ok (ins, len)) (ht : pm_tok pc ins len = true) (h : pm_ins sh fld cst cal nL rt ins pc ls st σ = some (.inl x)) (K : pm_G p l e R s m args below meth c Q D lay cy sh N nL A x) : pm_G p l e R s m args below meth c Q D lay cy sh N nL A (pc, ls, st, σ) := by
  cases ins with
  | iconst n =>
    have e9 := pm_tok_len 1 rfl (by decide) ht; subst e9
    exact pi_iconst hx hb hd h K
  | bipush n =>
    have e9 := pm_tok_len 2 rfl (by decide) ht; subst e9
    exact pi_bipush hx hb hd h K
  | sipush n =>
    have e9 := pm_tok_len 3 rfl (by decide) ht; subst e9
    exact pi_sipush hx hb hd h K
  | lconst n =>
    have e9 := pm_tok_len 1 rfl (by decide) ht; subst e9
    exact pi_lconst hx hb hd h K
  | iload_n k =>
    have e9 := pm_tok_len 1 rfl (by decide) ht; subst e9
    exact pi_iload_n hx hb hd h K
  | iload k =>
    have e9 := pm_tok_len 2 rfl (by decide) ht; subst e9
    exact pi_iload hx hb hd h K
  | lload_n k =>
    have e9 := pm_tok_len 1 rfl (by decide) ht; subst e9
    exact pi_lload_n hx hb hd h K
  | lload k =>
    have e9 := pm_tok_len 2 rfl (by decide) ht; subst e9
    exact pi_lload hx hb hd h K
  | aload_n k =>
    have e9 := pm_tok_len 1 rfl (by decide) ht; subst e9
    exact pi_aload_n hx hb hd h K
  | aload k =>
    have e9 := pm_tok_len 2 rfl (by decide) ht; subst e9
    exact pi_aload hx hb hd h K
  | istore_n k =>
    have e9 := pm_tok_len 1 rfl (by decide) ht; subst e9
    exact pi_istore_n hx hb hd h K
  | istore k =>
    have e9 := pm_tok_len 2 rfl (by decide) ht; subst e9
    exact pi_istore hx hb hd h K
  | astore_n k =>
    have e9 := pm_tok_len 1 rfl (by decide) ht; subst e9
    exact pi_astore_n hx hb hd h K
  | astore k =>
    have e9 := pm_tok_len 2 rfl (by decide) ht; subst e9
    exact pi_astore hx hb hd h K
  | lstore k =>
    have e9 := pm_tok_len 2 rfl (by decide) ht; subst e9
    exact pi_lstore hx hb hd h K
  | iinc k n =>
    have e9 := pm_tok_len 3 rfl (by decide) ht; subst e9
    exact pi_iinc hx hb hd h K
  | iadd =>
    have e9 := pm_tok_len 1 rfl (by decide) ht; subst e9
    exact pi_iadd hx hb hd h K
  | isub =>
    have e9 := pm_tok_len 1 rfl (by decide) ht; subst e9
    exact pi_isub hx hb hd h K
  | imul =>
    have e9 := pm_tok_len 1 rfl (by decide) ht; subst e9
    exact pi_imul hx hb hd h K
  | iand =>
    have e9 := pm_tok_len 1 rfl (by decide) ht; subst e9
    exact pi_iand hx hb hd h K
  | ior =>
    have e9 := pm_tok_len 1 rfl (by decide) ht; subst e9
    exact pi_ior hx hb hd h K
  | ishl =>
    have e9 := pm_tok_len 1 rfl (by decide) ht; subst e9
    exact pi_ishl hx hb hd h K
  | iushr =>
    have e9 := pm_tok_len 1 rfl (by decide) ht; subst e9
    exact pi_iushr hx hb hd h K
  | irem =>
    have e9 := pm_tok_len 1 rfl (by decide) ht; subst e9
    exact pi_irem hx hb hd h K
  | ladd =>
    have e9 := pm_tok_len 1 rfl (by decide) ht; subst e9
    exact pi_ladd hx hb hd h K
  | lsub =>
    have e9 := pm_tok_len 1 rfl (by decide) ht; subst e9
    exact pi_lsub hx hb hd h K
  | lmul =>
    have e9 := pm_tok_len 1 rfl (by decide) ht; subst e9
    exact pi_lmul hx hb hd h K
  | land =>
    have e9 := pm_tok_len 1 rfl (by decide) ht; subst e9
    exact pi_land hx hb hd h K
  | lor =>
    have e9 := pm_tok_len 1 rfl (by decide) ht; subst e9
    exact pi_lor hx hb hd h K
  | lrem =>
    have e9 := pm_tok_len 1 rfl (by decide) ht; subst e9
    exact pi_lrem hx hb hd h K
  | lcmp =>
    have e9 := pm_tok_len 1 rfl (by decide) ht; subst e9
    exact pi_lcmp hx hb hd h K
  | lshl =>
    have e9 := pm_tok_len 1 rfl (by decide) ht; subst e9
    exact pi_lshl hx hb hd h K
  | i2l =>
    have e9 := pm_tok_len 1 rfl (by decide) ht; subst e9
    exact pi_i2l hx hb hd h K
  | l2i =>
    have e9 := pm_tok_len 1 rfl (by decide) ht; subst e9
    exact pi_l2i hx hb hd h K
  | dup =>
    have e9 := pm_tok_len 1 rfl (by decide) ht; subst e9
    exact pi_dup hx hb hd h K
  | dup2 =>
    have e9 := pm_tok_len 1 rfl (by decide) ht; subst e9
    exact pi_dup2 hx hb hd h K
  | pop =>
    have e9 := pm_tok_len 1 rfl (by decide) ht; subst e9
    exact pi_pop hx hb hd h K
  | goto off =>
    have e9 := pm_tok_len 3 rfl (by decide) ht; subst e9
    exact pi_goto hx hb hd h K
  | tableswitch a b d f =>
    skip
    exact pi_tsw hx hb hd h K
  | lookupswitch a b =>
    skip
    exact pi_lsw hx hb hd h K
  | ldc k =>
    have e9 := pm_tok_len 2 rfl (by decide) ht; subst e9
    exact pi_ldc hx hb hown (fun y hy => hts _ (hcst k _ hy)) hd h K
  | ldc_w k =>
    have e9 := pm_tok_len 3 rfl (by decide) ht; subst e9
    exact pi_ldcw hx hb hown (fun y hy => hts _ (hcst k _ hy)) hd h K
  | ldc2_w k =>
    have e9 := pm_tok_len 3 rfl (by decide) ht; subst e9
    exact pi_ldc2 hx hb hown (fun y hy => hts _ (hcst k _ hy)) hd h K
  | getfield k =>
    have e9 := pm_tok_len 3 rfl (by decide) ht; subst e9
    exact pi_get hx hb hown hts hK hN (fun ci k9 hq => hfld k ci k9 hq) hd h K
  | putfield k =>
    have e9 := pm_tok_len 3 rfl (by decide) ht; subst e9
    exact pi_put hx hb hown hts hK hN (fun ci k9 hq => hfld k ci k9 hq) hd h K
  | iaload =>
    have e9 := pm_tok_len 1 rfl (by decide) ht; subst e9
    exact pi_ial hx hb hK hN hd h K
  | baload =>
    have e9 := pm_tok_len 1 rfl (by decide) ht; subst e9
    exact pi_zal hx hb hK hN hd h K
  | laload =>
    have e9 := pm_tok_len 1 rfl (by decide) ht; subst e9
    exact pi_lal hx hb hK hN hd h K
  | aaload =>
    have e9 := pm_tok_len 1 rfl (by decide) ht; subst e9
    exact pi_aal hx hb hK hN hd h K
  | iastore =>
    have e9 := pm_tok_len 1 rfl (by decide) ht; subst e9
    exact pi_ias hx hb hK hN hd h K
  | bastore =>
    have e9 := pm_tok_len 1 rfl (by decide) ht; subst e9
    exact pi_zas hx hb hK hN hd h K
  | lastore =>
    have e9 := pm_tok_len 1 rfl (by decide) ht; subst e9
    exact pi_las hx hb hK hN hd h K
  | arraylength =>
    have e9 := pm_tok_len 1 rfl (by decide) ht; subst e9
    exact pi_al hx hb hK hN hd h K
  | invokevirtual k =>
    have e9 := pm_tok_len 3 rfl (by decide) ht; subst e9
    exact pi_callV hx hb hml hown hts hK hN hA (fun a rc f hq => hcal k a rc f hq) hd h K
  | invokestatic k =>
    have e9 := pm_tok_len 3 rfl (by decide) ht; subst e9
    exact pi_callS hx hb hml hown hts hK hN hA (fun a rc f hq => hcal k a rc f hq) hd h K
  | ireturn =>
    skip
    exact absurd h (fun h => pm_ret_nl h)
  | lreturn =>
    skip
    exact absurd h (fun h => pm_ret_nl h)
  | return_ =>
    skip
    exact absurd h (fun h => pm_ret_nl h)
  | ifCond cd off =>
    have e9 := pm_tok_len 3 rfl (by decide) ht; subst e9
    have HT := pm_tok_if ht
    cases cd with
    | eq => exact pi_if_eq hx hb HT hd h K
    | ne => exact pi_if_ne hx hb HT hd h K
    | lt => exact pi_if_lt hx hb HT hd h K
    | ge => exact pi_if_ge hx hb HT hd h K
    | gt => exact pi_if_gt hx hb HT hd h K
    | le => exact pi_if_le hx hb HT hd h K
  | if_icmp cd off =>
    have e9 := pm_tok_len 3 rfl (by decide) ht; subst e9
    have HT := pm_tok_ic ht
    cases cd with
    | eq => exact pi_ic_eq hx hb HT hd h K
    | ne => exact pi_ic_ne hx hb HT hd h K
    | lt => exact pi_ic_lt hx hb HT hd h K
    | ge => exact pi_ic_ge hx hb HT hd h K
    | gt => exact pi_ic_gt hx hb HT hd h K
    | le => exact pi_ic_le hx hb HT hd h K
  | _ => cases h
set_option maxHeartbeats 4000000 in
theorem pm_end {free : Addr → Prop} {σ' : pST} {r : Option pSV} (hx : p.tables.exec = Jvm.exec) (hb : c.code = cc) (hr : meth.sig.returnType = pm_rt rt) (hlocks : meth.locks = false) (hfr : ∀ q, A q → free q) {ins : Instr} {len : Nat} (hd : decode cc pc = .ok (ins, len)) (ht : pm_tok pc ins len = true) (h : pm_ins sh fld cst cal nL rt ins pc ls st σ = some (.inr (σ', r))) : pm_G p l e R s m args below meth c (MQ below (pm_Q lay cy sh N D A σ' r) args s 0 0 free) D lay cy sh N nL A (pc, ls, st, σ) := by
  cases ins with
  | ireturn =>
    have e9 := pm_tok_len 1 rfl (by decide) ht; subst e9
    exact pi_ret hx hb hr hlocks hfr (Or.inr (Or.inl ⟨rfl, rfl⟩)) hd h
  | lreturn =>
    have e9 := pm_tok_len 1 rfl (by decide) ht; subst e9
    exact pi_ret hx hb hr hlocks hfr (Or.inr (Or.inr ⟨rfl, rfl⟩)) hd h
  | return_ =>
    have e9 := pm_tok_len 1 rfl (by decide) ht; subst e9
    exact pi_ret hx hb hr hlocks hfr (Or.inl ⟨rfl, rfl⟩) hd h
  | ifCond cd off =>
    cases cd <;> (simp only [pm_ins, pm_if, pm_j, pm_go] at h; repeat' split at h) <;> cases h
  | if_icmp cd off =>
    cases cd <;> (simp only [pm_ins, pm_ic, pm_j, pm_go] at h; repeat' split at h) <;> cases h
  | _ => first
    | cases h
    | ((simp only [pm_ins, pm_go, pm_ldc, pm_ldc2, pm_ldi, pm_ldl, pm_lda, pm_sti, pm_sta, pm_stl, pm_inc, pm_ii, pm_ll, pm_irem, pm_lrem, pm_lcmp, pm_lsh, pm_i2l, pm_l2i, pm_dup, pm_dup2, pm_pop, pm_j, pm_tsw, pm_lsw, pm_gf, pm_pf, pm_ial, pm_zal, pm_lal, pm_aal, pm_ias, pm_zas, pm_las, pm_al, pm_call] at h); (repeat' split at h) <;> cases h)
theorem pm_sound (hx : p.tables.exec = Jvm.exec) (hb : c.code = cc) (hml : c.maxLocals = nL) (hown : s.vm.findClass own = some m.cls) (hts : ∀ w ∈ Ts, w.before args s = true) (hK : va_K D vwCl (pm_T cy) s) (hN : ∀ i, N ≤ i → sh i = .inr (9, 0)) (hA : ∀ q, s.heap.size ≤ q → A q) (hfld : ∀ idx ci k, fld idx = some (ci, k) → pm_Fok Ts own idx ci k) (hcst : ∀ idx v, cst idx = some v → pm_Kok Ts own idx v) (hcal : ∀ idx a rc f, cal idx = some (a, rc, f) → pm_Cal l Ts R own sh N idx a rc f) {free : Addr → Prop} (hr : meth.sig.returnType = pm_rt rt) (hlocks : meth.locks = false) (hfr : ∀ q, A q → free q) (htab : ∀ pc q, tab pc = some q → decode cc pc = .ok q ∧ pm_tok pc q.1 q.2 = true) {σ' : pST} {r : Option pSV} : ∀ (n pc : Nat) (ls : pLS) (st : List pSV) (σ : pST), pm_run sh tab fld cst cal nL rt n pc ls st σ = some (σ', r) → pm_G p l e R s m args below meth c (MQ below (pm_Q lay cy sh N D A σ' r) args s 0 0 free) D lay cy sh N nL A (pc, ls, st, σ) := by
  intro n
  induction n with
  | zero => intro pc ls st σ h; cases h
  | succ n ih =>
    intro pc ls st σ h
    unfold pm_run at h
    split at h
    · cases h
    · rename_i q hq
      obtain ⟨h1, h2⟩ := htab pc q hq
      split at h
      · rename_i pc' ls' st' σ9 hs
        exact pm_step hx hb hml hown hts hK hN hA hfld hcst hcal h1 h2 hs (ih pc' ls' st' σ9 h)
      · rename_i r9 hs
        cases h
        exact pm_end hx hb hr hlocks hfr h1 h2 hs
      · cases h
end PMZ
def pm_en : Nat → List pSV → pLS
  | _, [] => []
  | i, v :: vs => (i, v) :: pm_en (if pm_w v = 2 then i + 2 else i + 1) vs
theorem pm_en_L (lay : Nat → Nat) : ∀ (vs : List pSV) (i : Nat), lv_args i (vs.map (pm_v lay)) = pm_L lay (pm_en i vs)
  | [], _ => rfl
  | v :: vs, i => by
    simp only [List.map_cons, lv_args, pm_en, pm_L, pm_cat]
    rw [pm_en_L lay vs]
def pm_sz (vs : List pSV) : Nat := (vs.map pm_w).sum
theorem pm_sl_len (lay : Nat → Nat) : ∀ vs : List pSV, (lg_sl (vs.map (pm_v lay))).length = pm_sz vs
  | [] => rfl
  | v :: vs => by
    have ih := pm_sl_len lay vs
    unfold lg_sl at ih ⊢
    rw [List.map_cons, List.flatMap_cons, List.length_append, ih]
    unfold pm_sz
    rw [List.map_cons, List.sum_cons]
    congr 1
    rcases v with v | v | v <;> rfl
/-- a method as a pure function: its receiver is of the class rc (none: static) -/
def pm_fn (sh : pSH) (rc : Option Nat) (nL : Nat) (run : pLS → pST → Option pRT) : pFN := fun σ vs => if pm_sz vs ≤ nL then (match rc, vs with
  | none, vs => run (pm_en 0 vs) σ
  | some ci, .inr (.inr i) :: vs => if sh i = .inl ci then run (pm_en 0 (.inr (.inr i) :: vs)) σ else none
  | _, _ => none) else none
theorem pm_fn_run {sh : pSH} {rc : Option Nat} {nL : Nat} {run : pLS → pST → Option pRT} {σ : pST} {vs : List pSV} {x : pRT} (h : pm_fn sh rc nL run σ vs = some x) : pm_sz vs ≤ nL ∧ run (pm_en 0 vs) σ = some x := by
  unfold pm_fn at h
  split at h
  · rename_i hz
    refine ⟨hz, ?_⟩
    split at h
    · exact h
    · split at h
      · exact h
      · cases h
    · cases h
  · cases h
theorem pm_fn_recv {sh : pSH} {ci nL : Nat} {run : pLS → pST → Option pRT} {σ : pST} {vs : List pSV} {x : pRT} (h : pm_fn sh (some ci) nL run σ vs = some x) : ∃ i vs', vs = .inr (.inr i) :: vs' ∧ sh i = .inl ci := by
  unfold pm_fn at h
  split at h
  · rcases vs with _ | ⟨v, vs⟩
    · cases h
    · rcases v with v | v | i
      · cases h
      · cases h
      · simp only at h
        split at h
        · rename_i hs
          exact ⟨i, vs, rfl, hs⟩
        · cases h
  · cases h
/-- a method's contract out of its code -/
theorem pm_con {l : Launch} {y : MethodName} {ws ws' : List Cond} {rm : Room} {cc : ByteArray} {nL rt N : Nat} {sh : pSH} {rc : Option Nat} {tab : Nat → Option (Instr × Nat)} {fld : Nat → Option (Nat × Nat)} {cst : Nat → Option (Int32 ⊕ Int64)} {cal : pCL} (hy : plainName y.cls = true) (hw : ws = Cond.code y cc nL (pm_rt rt) :: ws') (hN : ∀ i, N ≤ i → sh i = .inr (9, 0)) (htab : ∀ pc q, tab pc = some q → decode cc pc = .ok q ∧ pm_tok pc q.1 q.2 = true) (hfld : ∀ idx ci k, fld idx = some (ci, k) → pm_Fok ws y.cls idx ci k) (hcst : ∀ idx v, cst idx = some v → pm_Kok ws y.cls idx v) (hcal : ∀ idx a rc f, cal idx = some (a, rc, f) → pm_Cal l ws rm y.cls sh N idx a rc f) (n : Nat) : pm_Con l y ws rm sh N (pm_fn sh rc nL (fun ls σ => pm_run sh tab fld cst cal nL rt n 0 ls [] σ)) := by
  intro D lay cy sz σ vs σ' r hf
  obtain ⟨hz, hrun⟩ := pm_fn_run hf
  refine Met.ofW (cc := cc) (maxL := nL) (ret := pm_rt rt) hy hw ?_
  intro p e s m args below meth c s₁ B hml hv
  obtain ⟨rfl, hsz, hP, hK, hD0⟩ := hv
  have hts := atoms_spec (ws := ws) B.pre
  have hown : s.vm.findClass y.cls = some m.cls := findClass_of_methodNamed B.named
  subst hsz
  have hD := hD0.self (sz := s.heap.size)
  have hl := lv_entry (vs.map (pm_v lay)) (n := nL) (by rw [pm_sl_len]; exact hz)
  rw [pm_en_L] at hl
  rw [lg_entry_eq]
  exact pm_sound (D := D) (lay := lay) (cy := cy) (A := va_A (pm_W lay cy sh N σ) s.heap.size) B.exec B.bytes hml hown hts hK hN (fun q hq => Or.inr hq) hfld hcst hcal B.returns B.notSynchronized (fun q hq => hq) htab n 0 (pm_en 0 vs) [] σ hrun s.heap [] _ hl hP hD va_S.rf
end
section
/-! ===== a method's pure function: what its code answers, with as many steps as it takes ===== -/
noncomputable def pm_any (f : Nat → Option pRT) : Option pRT := @dite _ (∃ n x, f n = some x) (Classical.propDecidable _) (fun h => f (Classical.choose h)) (fun _ => none)
theorem pm_any_ex {f : Nat → Option pRT} {x : pRT} (h : pm_any f = some x) : ∃ n, f n = some x := by
  unfold pm_any at h
  by_cases q : ∃ n x, f n = some x
  · rw [dif_pos q] at h
    exact ⟨_, h⟩
  · rw [dif_neg q] at h
    cases h
theorem pm_any_of {f : Nat → Option pRT} (hm : ∀ n x, f n = some x → f (n + 1) = some x) {n : Nat} {x : pRT} (h : f n = some x) : pm_any f = some x := by
  have up : ∀ k n x, f n = some x → f (n + k) = some x := by
    intro k
    induction k with
    | zero => intro n x h; exact h
    | succ k ih => intro n x h; exact hm _ _ (ih n x h)
  have q : ∃ n x, f n = some x := ⟨n, x, h⟩
  unfold pm_any
  rw [dif_pos q]
  obtain ⟨y, hy⟩ := Classical.choose_spec q
  have h1 := up n (Classical.choose q) y hy
  have h2 := up (Classical.choose q) n x h
  rw [Nat.add_comm] at h2
  rw [h1] at h2
  rw [hy]
  exact h2
theorem pm_run_mono {sh : pSH} {tab : Nat → Option (Instr × Nat)} {fld : Nat → Option (Nat × Nat)} {cst : Nat → Option (Int32 ⊕ Int64)} {cal : pCL} {nL rt : Nat} {x : pRT} : ∀ (n pc : Nat) (ls : pLS) (st : List pSV) (σ : pST), pm_run sh tab fld cst cal nL rt n pc ls st σ = some x → pm_run sh tab fld cst cal nL rt (n + 1) pc ls st σ = some x := by
  intro n
  induction n with
  | zero => intro pc ls st σ h; cases h
  | succ n ih =>
    intro pc ls st σ h
    unfold pm_run at h ⊢
    cases ht : tab pc with
    | none => rw [ht] at h; cases h
    | some q =>
      rw [ht] at h
      simp only at h ⊢
      cases hi : pm_ins sh fld cst cal nL rt q.1 pc ls st σ with
      | none => rw [hi] at h; cases h
      | some w =>
        rw [hi] at h
        rcases w with ⟨a, b, d, g⟩ | r
        · exact ih a b d g h
        · exact h
/-- tables as lists -/
def pm_tb (l : List (Nat × (Instr × Nat))) (pc : Nat) : Option (Instr × Nat) := (l.find? (fun q => q.1 == pc)).map (fun q => q.2)
def pm_fb (l : List (Nat × (Nat × Nat))) (idx : Nat) : Option (Nat × Nat) := (l.find? (fun q => q.1 == idx)).map (fun q => q.2)
def pm_kb (l : List (Nat × (Int32 ⊕ Int64))) (idx : Nat) : Option (Int32 ⊕ Int64) := (l.find? (fun q => q.1 == idx)).map (fun q => q.2)
def pm_lb (l : List (Nat × (Nat × (Option Nat × pFN)))) (idx : Nat) : Option (Nat × (Option Nat × pFN)) := (l.find? (fun q => q.1 == idx)).map (fun q => q.2)
theorem pm_find {α : Type} {l : List (Nat × α)} {i : Nat} {v : α} (h : (l.find? (fun q => q.1 == i)).map (fun q => q.2) = some v) : (i, v) ∈ l := by
  cases hf : l.find? (fun q => q.1 == i) with
  | none => rw [hf] at h; cases h
  | some q =>
    rw [hf] at h
    have h1 := List.mem_of_find?_eq_some hf
    have h2 := List.find?_some hf
    have h3 : q.1 = i := by simpa using h2
    have h4 : q.2 = v := by simpa using h
    rw [← h3, ← h4]
    exact h1
abbrev pm_code (sh : pSH) (t : List (Nat × (Instr × Nat))) (f : List (Nat × (Nat × Nat))) (k : List (Nat × (Int32 ⊕ Int64))) (cl : List (Nat × (Nat × (Option Nat × pFN)))) (nL rt : Nat) : Nat → Nat → pLS → List pSV → pST → Option pRT := pm_run sh (pm_tb t) (pm_fb f) (pm_kb k) (pm_lb cl) nL rt
noncomputable def pm_met (sh : pSH) (rc : Option Nat) (t : List (Nat × (Instr × Nat))) (f : List (Nat × (Nat × Nat))) (k : List (Nat × (Int32 ⊕ Int64))) (cl : List (Nat × (Nat × (Option Nat × pFN)))) (nL rt : Nat) : pFN := pm_fn sh rc nL (fun ls σ => pm_any (fun n => pm_code sh t f k cl nL rt n 0 ls [] σ))
theorem pm_met_con {l : Launch} {y : MethodName} {ws ws' : List Cond} {rm : Room} {cc : ByteArray} {nL rt N : Nat} {sh : pSH} {rc : Option Nat} {t : List (Nat × (Instr × Nat))} {f : List (Nat × (Nat × Nat))} {k : List (Nat × (Int32 ⊕ Int64))} {cl : List (Nat × (Nat × (Option Nat × pFN)))} (hy : plainName y.cls = true) (hw : ws = Cond.code y cc nL (pm_rt rt) :: ws') (hN : ∀ i, N ≤ i → sh i = .inr (9, 0)) (htab : ∀ q ∈ t, decode cc q.1 = .ok q.2 ∧ pm_tok q.1 q.2.1 q.2.2 = true) (hfld : ∀ q ∈ f, pm_Fok ws y.cls q.1 q.2.1 q.2.2) (hcst : ∀ q ∈ k, pm_Kok ws y.cls q.1 q.2) (hcal : ∀ q ∈ cl, pm_Cal l ws rm y.cls sh N q.1 q.2.1 q.2.2.1 q.2.2.2) : pm_Con l y ws rm sh N (pm_met sh rc t f k cl nL rt) := by
  intro D lay cy sz σ vs σ' r hf
  have hf0 := hf
  obtain ⟨hz, hrun⟩ := pm_fn_run hf
  obtain ⟨n, hn⟩ := pm_any_ex hrun
  refine pm_con (cc := cc) (nL := nL) (rt := rt) (rc := rc) (tab := pm_tb t) (fld := pm_fb f) (cst := pm_kb k) (cal := pm_lb cl) hy hw hN (fun pc q h => htab (pc, q) (pm_find h)) (fun idx ci j h => hfld (idx, ci, j) (pm_find h)) (fun idx v h => hcst (idx, v) (pm_find h)) (fun idx a rc f9 h => hcal (idx, a, rc, f9) (pm_find h)) n D lay cy sz σ vs σ' r ?_
  unfold pm_met pm_fn at hf0
  unfold pm_fn
  rw [if_pos hz] at hf0 ⊢
  split at hf0
  · exact hn
  · split at hf0
    · rename_i hs
      simp only
      rw [if_pos hs]
      exact hn
    · cases hf0
  · cases hf0
theorem pm_met_recv {sh : pSH} {ci : Nat} {t : List (Nat × (Instr × Nat))} {f : List (Nat × (Nat × Nat))} {k : List (Nat × (Int32 ⊕ Int64))} {cl : List (Nat × (Nat × (Option Nat × pFN)))} {nL rt : Nat} : ∀ (σ : pST) (vs : List pSV) (x : pRT), pm_met sh (some ci) t f k cl nL rt σ vs = some x → ∃ i vs', vs = .inr (.inr i) :: vs' ∧ sh i = .inl ci := fun _ _ _ h => pm_fn_recv h
/-- how a method's answer is shown: by a run -/
theorem pm_met_of {sh : pSH} {ci i : Nat} {t : List (Nat × (Instr × Nat))} {f : List (Nat × (Nat × Nat))} {k : List (Nat × (Int32 ⊕ Int64))} {cl : List (Nat × (Nat × (Option Nat × pFN)))} {nL rt : Nat} {σ : pST} {vs : List pSV} {x : pRT} (n : Nat) (hs : sh i = .inl ci) (hz : pm_sz (.inr (.inr i) :: vs) ≤ nL) (h : pm_code sh t f k cl nL rt n 0 (pm_en 0 (.inr (.inr i) :: vs)) [] σ = some x) : pm_met sh (some ci) t f k cl nL rt σ (.inr (.inr i) :: vs) = some x := by
  unfold pm_met pm_fn
  rw [if_pos hz]
  simp only
  rw [if_pos hs]
  exact pm_any_of (fun n x h => pm_run_mono n _ _ _ _ h) h
theorem pm_met_ofS {sh : pSH} {t : List (Nat × (Instr × Nat))} {f : List (Nat × (Nat × Nat))} {k : List (Nat × (Int32 ⊕ Int64))} {cl : List (Nat × (Nat × (Option Nat × pFN)))} {nL rt : Nat} {σ : pST} {vs : List pSV} {x : pRT} (n : Nat) (hz : pm_sz vs ≤ nL) (h : pm_code sh t f k cl nL rt n 0 (pm_en 0 vs) [] σ = some x) : pm_met sh none t f k cl nL rt σ vs = some x := by
  unfold pm_met pm_fn
  rw [if_pos hz]
  exact pm_any_of (fun n x h => pm_run_mono n _ _ _ _ h) h
/-! ===== the shapes: the cells of the class by their numbers (288), those of the reference (44) ===== -/
/-- a bench's cells from its own on: 135 -/
def pm_bn (j : Nat) : Nat ⊕ (Nat × Nat) := if j < 7 then (match j with
    | 0 => .inl 1
    | 1 => .inl 4
    | 2 => .inr (1, 32)
    | 3 => .inr (0, 512)
    | 4 => .inr (0, 512)
    | 5 => .inr (1, 512)
    | _ => .inr (3, 16))
  else (match (j - 7) % 8 with
    | 0 => .inl 0
    | 1 => .inr (1, 32)
    | 2 => .inr (1, 12)
    | 3 => .inr (1, 4)
    | 4 => .inr (1, 32)
    | _ => .inr (0, 12))
def shX (i : Nat) : Nat ⊕ (Nat × Nat) := if i < 9 then (match i with
    | 0 => .inl 6
    | 1 => .inr (1, 32)
    | 2 => .inl 2
    | 3 => .inr (0, 16)
    | 4 => .inr (0, 192)
    | 5 => .inr (0, 192)
    | 6 => .inr (0, 192)
    | 7 => .inr (1, 192)
    | _ => .inl 5)
  else if i < 144 then pm_bn (i - 9)
  else if i < 153 then (match i - 144 with
    | 0 => .inl 3
    | 1 => .inr (0, 200)
    | 2 => .inr (0, 200)
    | 3 => .inr (0, 16)
    | 4 => .inr (0, 16)
    | 5 => .inr (0, 16)
    | _ => .inr (0, 4))
  else if i < 288 then pm_bn (i - 153) else .inr (9, 0)
theorem shX_N : ∀ i, 288 ≤ i → shX i = .inr (9, 0) := fun i h => by
  unfold shX
  rw [if_neg (by omega), if_neg (by omega), if_neg (by omega), if_neg (by omega)]
def shM (i : Nat) : Nat ⊕ (Nat × Nat) := if i < 44 then ([.inl 7, .inr (1, 32), .inr (0, 16), .inr (0, 192), .inr (0, 192), .inr (0, 192), .inr (1, 192), .inr (0, 16), .inr (1, 64), .inr (2, 16), .inr (2, 512), .inr (1, 512), .inr (0, 16), .inr (0, 512), .inr (0, 512), .inr (0, 512), .inr (1, 512), .inr (0, 16), .inr (1, 192), .inr (0, 16), .inr (0, 16), .inr (2, 512), .inr (2, 512), .inr (1, 512), .inr (0, 512), .inr (0, 16), .inr (0, 16), .inr (0, 16), .inr (0, 4), .inr (0, 4), .inr (0, 4), .inr (0, 16), .inr (0, 200), .inr (0, 200), .inr (1, 192), .inr (0, 192), .inr (2, 16), .inr (0, 16), .inr (0, 16), .inr (0, 16), .inr (0, 16), .inr (1, 32), .inr (1, 32), .inr (1, 4)] : List (Nat ⊕ (Nat × Nat))).getD i (.inr (9, 0)) else .inr (9, 0)
theorem shM_N : ∀ i, 44 ≤ i → shM i = .inr (9, 0) := fun i h => by
  unfold shM
  rw [if_neg (by omega)]
end
section
def wsMin : List Cond := [Cond.code Lib.Math.min.name Lib.Math.min.code 2 (some .int)]
set_option maxRecDepth 20000 in
theorem ggX0_begin_J7_fill_d0a16 : GoodIn wsX0_begin wsJ7_fill_d0a16 := goodIn_r _ [13] rfl (by decide +kernel)
set_option maxRecDepth 20000 in
theorem gX0_begin_J7_fill_d0a16 : GoodIn wsX0_begin (va_wsS RX0 66 yJ7_fill_d0a16 wsJ7_fill_d0a16) := goodIn_app (goodIn_of _ (by decide +kernel)) ggX0_begin_J7_fill_d0a16
set_option maxRecDepth 20000 in
theorem ggX0_isOver_X2_hasAct : GoodIn wsX0_isOver wsX2_hasAct := goodIn_r _ [8, 9, 10, 29, 30, 31, 32, 33, 34] rfl (by decide +kernel)
set_option maxRecDepth 20000 in
theorem gX0_isOver_X2_hasAct : GoodIn wsX0_isOver (wsV RX0 72 RX2 yX2_hasAct wsX2_hasAct) := goodIn_app (goodIn_of _ (by decide +kernel)) ggX0_isOver_X2_hasAct
set_option maxRecDepth 20000 in
theorem ggX0_countWritten_J6_bitCount_0f7a4 : GoodIn wsX0_countWritten wsJ6_bitCount_0f7a4 := goodIn_r _ [5, 6, 7, 8] rfl (by decide +kernel)
set_option maxRecDepth 20000 in
theorem gX0_countWritten_J6_bitCount_0f7a4 : GoodIn wsX0_countWritten (va_wsS RX0 78 yJ6_bitCount_0f7a4 wsJ6_bitCount_0f7a4) := goodIn_app (goodIn_of _ (by decide +kernel)) ggX0_countWritten_J6_bitCount_0f7a4
set_option maxRecDepth 20000 in
theorem ggX0_doNext_X0_isOver : GoodIn wsX0_doNext wsX0_isOver := goodIn_r _ [13, 14, 1, 2, 15, 16, 17, 18, 19, 20, 21, 87, 88, 89, 90, 91, 92, 93, 94, 95, 96, 97, 98, 99, 100, 101, 102, 103, 104, 105, 106, 107, 108, 109, 110] rfl (by decide +kernel)
set_option maxRecDepth 20000 in
theorem gX0_doNext_X0_isOver : GoodIn wsX0_doNext (wsV RX0 84 RX0 yX0_isOver wsX0_isOver) := goodIn_app (goodIn_of _ (by decide +kernel)) ggX0_doNext_X0_isOver
set_option maxRecDepth 20000 in
theorem ggX0_doNext_X0_leafAt : GoodIn wsX0_doNext wsX0_leafAt := goodIn_r _ [25, 26, 27, 87, 88, 89, 90, 91, 92, 93, 94, 95, 96, 97, 98, 99, 100, 101, 102, 103, 104] rfl (by decide +kernel)
set_option maxRecDepth 20000 in
theorem gX0_doNext_X0_leafAt : GoodIn wsX0_doNext (wsV RX0 102 RX0 yX0_leafAt wsX0_leafAt) := goodIn_app (goodIn_of _ (by decide +kernel)) ggX0_doNext_X0_leafAt
set_option maxRecDepth 20000 in
theorem ggX0_doNext_X0_read : GoodIn wsX0_doNext wsX0_read := goodIn_r _ [31, 26, 32, 33, 1, 34, 35, 36, 37, 12, 38, 39, 40, 41, 42, 43, 44, 45, 46, 47, 48, 49, 50, 51, 52, 53, 54, 55, 56, 57, 58, 59, 60, 61, 62, 63, 64, 65, 66, 67, 68, 87, 88, 89, 90, 91, 92, 93, 94, 95, 96, 97, 98, 99, 100, 101, 102, 103, 104, 111, 112, 113, 114] rfl (by decide +kernel)
set_option maxRecDepth 20000 in
theorem gX0_doNext_X0_read : GoodIn wsX0_doNext (wsV RX0 106 RX0 yX0_read wsX0_read) := goodIn_app (goodIn_of _ (by decide +kernel)) ggX0_doNext_X0_read
set_option maxRecDepth 20000 in
theorem ggX0_doNext_X0_perform : GoodIn wsX0_doNext wsX0_perform := goodIn_r _ [72, 26, 2, 22, 23, 24, 12, 25, 27, 73, 74, 75, 76, 32, 39, 77, 78, 79, 80, 81, 82, 83, 84, 85, 86, 14, 87, 88, 89, 90, 91, 92, 93, 94, 95, 96, 97, 98, 99, 100, 101, 102, 103, 104] rfl (by decide +kernel)
set_option maxRecDepth 20000 in
theorem gX0_doNext_X0_perform : GoodIn wsX0_doNext (wsV RX0 110 RX0 yX0_perform wsX0_perform) := goodIn_app (goodIn_of _ (by decide +kernel)) ggX0_doNext_X0_perform
set_option maxRecDepth 20000 in
theorem ggX0_read_X0_hasWritten : GoodIn wsX0_read wsX0_hasWritten := goodIn_r _ [10, 11, 41, 42, 43, 44, 45, 46, 47, 48, 49, 50, 51, 52, 53, 54, 55, 56, 57, 58] rfl (by decide +kernel)
set_option maxRecDepth 20000 in
theorem gX0_read_X0_hasWritten : GoodIn wsX0_read (wsV RX0 116 RX0 yX0_hasWritten wsX0_hasWritten) := goodIn_app (goodIn_of _ (by decide +kernel)) ggX0_read_X0_hasWritten
set_option maxRecDepth 20000 in
theorem ggX0_read_X5_writerBelow : GoodIn wsX0_read wsX5_writerBelow := goodIn_r _ [16, 17, 59, 60, 61, 62] rfl (by decide +kernel)
set_option maxRecDepth 20000 in
theorem gX0_read_X5_writerBelow : GoodIn wsX0_read (wsV RX0 120 RX5 yX5_writerBelow wsX5_writerBelow) := goodIn_app (goodIn_of _ (by decide +kernel)) ggX0_read_X5_writerBelow
set_option maxRecDepth 20000 in
theorem ggX0_read_X5_isPerhaps : GoodIn wsX0_read wsX5_isPerhaps := goodIn_r _ [21, 17, 59, 60, 61, 62] rfl (by decide +kernel)
set_option maxRecDepth 20000 in
theorem gX0_read_X5_isPerhaps : GoodIn wsX0_read (wsV RX0 126 RX5 yX5_isPerhaps wsX5_isPerhaps) := goodIn_app (goodIn_of _ (by decide +kernel)) ggX0_read_X5_isPerhaps
set_option maxRecDepth 20000 in
theorem ggX0_read_X5_numberOf : GoodIn wsX0_read wsX5_numberOf := goodIn_r _ [25, 26, 59, 60, 61, 62] rfl (by decide +kernel)
set_option maxRecDepth 20000 in
theorem gX0_read_X5_numberOf : GoodIn wsX0_read (wsV RX0 129 RX5 yX5_numberOf wsX5_numberOf) := goodIn_app (goodIn_of _ (by decide +kernel)) ggX0_read_X5_numberOf
set_option maxRecDepth 20000 in
theorem ggX0_read_X5_valueOf : GoodIn wsX0_read wsX5_valueOf := goodIn_r _ [30, 31, 32, 59, 60, 61, 62] rfl (by decide +kernel)
set_option maxRecDepth 20000 in
theorem gX0_read_X5_valueOf : GoodIn wsX0_read (wsV RX0 132 RX5 yX5_valueOf wsX5_valueOf) := goodIn_app (goodIn_of _ (by decide +kernel)) ggX0_read_X5_valueOf
set_option maxRecDepth 20000 in
theorem ggX0_read_X0_keep : GoodIn wsX0_read wsX0_keep := goodIn_r _ [36, 37, 38, 39, 40, 5, 3, 41, 42, 43, 44, 45, 46, 47, 48, 49, 50, 51, 52, 53, 54, 55, 56, 57, 58] rfl (by decide +kernel)
set_option maxRecDepth 20000 in
theorem gX0_read_X0_keep : GoodIn wsX0_read (wsV RX0 136 RX0 yX0_keep wsX0_keep) := goodIn_app (goodIn_of _ (by decide +kernel)) ggX0_read_X0_keep
set_option maxRecDepth 20000 in
theorem ggX0_perform_X0_leafAt : GoodIn wsX0_perform wsX0_leafAt := goodIn_r _ [7, 1, 8, 26, 27, 28, 29, 30, 31, 32, 33, 34, 35, 36, 37, 38, 39, 40, 41, 42, 43] rfl (by decide +kernel)
set_option maxRecDepth 20000 in
theorem gX0_perform_X0_leafAt : GoodIn wsX0_perform (wsV RX0 102 RX0 yX0_leafAt wsX0_leafAt) := goodIn_app (goodIn_of _ (by decide +kernel)) ggX0_perform_X0_leafAt
set_option maxRecDepth 20000 in
theorem ggX0_perform_X0_write : GoodIn wsX0_perform wsX0_write := goodIn_r _ [12, 13, 14, 26, 27, 28, 29, 30, 31, 32, 33, 34, 35, 36, 37, 38, 39, 40, 41, 42, 43] rfl (by decide +kernel)
set_option maxRecDepth 20000 in
theorem gX0_perform_X0_write : GoodIn wsX0_perform (wsV RX0 139 RX0 yX0_write wsX0_write) := goodIn_app (goodIn_of _ (by decide +kernel)) ggX0_perform_X0_write
set_option maxRecDepth 20000 in
theorem ggX0_perform_X0_raise : GoodIn wsX0_perform wsX0_raise := goodIn_r _ [18, 19, 20, 26, 27, 28, 29, 30, 31, 32, 33, 34, 35, 36, 37, 38, 39, 40, 41, 42, 43] rfl (by decide +kernel)
set_option maxRecDepth 20000 in
theorem gX0_perform_X0_raise : GoodIn wsX0_perform (wsV RX0 143 RX0 yX0_raise wsX0_raise) := goodIn_app (goodIn_of _ (by decide +kernel)) ggX0_perform_X0_raise
set_option maxRecDepth 20000 in
theorem ggX0_perform_X0_fail : GoodIn wsX0_perform wsX0_fail := goodIn_r _ [24, 25, 14, 19, 26, 27, 28, 29, 30, 31, 32, 33, 34, 35, 36, 37, 38, 39, 40, 41, 42, 43] rfl (by decide +kernel)
set_option maxRecDepth 20000 in
theorem gX0_perform_X0_fail : GoodIn wsX0_perform (wsV RX0 147 RX0 yX0_fail wsX0_fail) := goodIn_app (goodIn_of _ (by decide +kernel)) ggX0_perform_X0_fail
set_option maxRecDepth 20000 in
theorem ggX0_firstChanged_X5_writerBelow : GoodIn wsX0_firstChanged wsX5_writerBelow := goodIn_r _ [10, 11, 39, 40, 41, 42] rfl (by decide +kernel)
set_option maxRecDepth 20000 in
theorem gX0_firstChanged_X5_writerBelow : GoodIn wsX0_firstChanged (wsV RX0 120 RX5 yX5_writerBelow wsX5_writerBelow) := goodIn_app (goodIn_of _ (by decide +kernel)) ggX0_firstChanged_X5_writerBelow
set_option maxRecDepth 20000 in
theorem ggX0_firstChanged_X5_isPerhaps : GoodIn wsX0_firstChanged wsX5_isPerhaps := goodIn_r _ [15, 11, 39, 40, 41, 42] rfl (by decide +kernel)
set_option maxRecDepth 20000 in
theorem gX0_firstChanged_X5_isPerhaps : GoodIn wsX0_firstChanged (wsV RX0 126 RX5 yX5_isPerhaps wsX5_isPerhaps) := goodIn_app (goodIn_of _ (by decide +kernel)) ggX0_firstChanged_X5_isPerhaps
set_option maxRecDepth 20000 in
theorem ggX0_firstChanged_X5_numberOf : GoodIn wsX0_firstChanged wsX5_numberOf := goodIn_r _ [19, 20, 39, 40, 41, 42] rfl (by decide +kernel)
set_option maxRecDepth 20000 in
theorem gX0_firstChanged_X5_numberOf : GoodIn wsX0_firstChanged (wsV RX0 129 RX5 yX5_numberOf wsX5_numberOf) := goodIn_app (goodIn_of _ (by decide +kernel)) ggX0_firstChanged_X5_numberOf
set_option maxRecDepth 20000 in
theorem ggX1_open_X5_open : GoodIn wsX1_open wsX5_open := goodIn_r _ [9, 10, 11, 12, 13, 14, 15, 16, 17, 18, 19, 36, 37, 38, 39] rfl (by decide +kernel)
set_option maxRecDepth 20000 in
theorem gX1_open_X5_open : GoodIn wsX1_open (wsV RX1 34 RX5 yX5_open wsX5_open) := goodIn_app (goodIn_of _ (by decide +kernel)) ggX1_open_X5_open
set_option maxRecDepth 20000 in
theorem ggX1_open_X0_open : GoodIn wsX1_open wsX0_open := goodIn_r _ [24, 25, 26, 40, 41, 42, 43, 44, 45, 46, 47, 48, 49, 50, 51, 52, 53, 54, 55, 56, 57] rfl (by decide +kernel)
set_option maxRecDepth 20000 in
theorem gX1_open_X0_open : GoodIn wsX1_open (wsV RX1 38 RX0 yX0_open wsX0_open) := goodIn_app (goodIn_of _ (by decide +kernel)) ggX1_open_X0_open
set_option maxRecDepth 20000 in
theorem ggX1_runOneByOne_X0_begin : GoodIn wsX1_runOneByOne wsX0_begin := goodIn_r _ [8, 9, 10, 11, 12, 13, 14, 15, 16, 17, 18, 19, 20, 21, 114, 115, 116, 117, 118, 119, 120, 121, 122, 123, 124, 125, 126, 127, 128, 129, 130, 131] rfl (by decide +kernel)
set_option maxRecDepth 20000 in
theorem gX1_runOneByOne_X0_begin : GoodIn wsX1_runOneByOne (wsV RX1 40 RX0 yX0_begin wsX0_begin) := goodIn_app (goodIn_of _ (by decide +kernel)) ggX1_runOneByOne_X0_begin
set_option maxRecDepth 20000 in
theorem ggX1_runOneByOne_X0_isOver : GoodIn wsX1_runOneByOne wsX0_isOver := goodIn_r _ [25, 12, 26, 10, 27, 28, 29, 30, 31, 32, 33, 114, 115, 116, 117, 118, 119, 120, 121, 122, 123, 124, 125, 126, 127, 128, 129, 130, 131, 132, 133, 134, 135, 136, 137] rfl (by decide +kernel)
set_option maxRecDepth 20000 in
theorem gX1_runOneByOne_X0_isOver : GoodIn wsX1_runOneByOne (wsV RX1 43 RX0 yX0_isOver wsX0_isOver) := goodIn_app (goodIn_of _ (by decide +kernel)) ggX1_runOneByOne_X0_isOver
set_option maxRecDepth 20000 in
theorem ggX1_runOneByOne_X0_doNext : GoodIn wsX1_runOneByOne wsX0_doNext := goodIn_r _ [37, 26, 10, 38, 39, 40, 41, 11, 42, 43, 23, 24, 7, 25, 12, 27, 28, 29, 30, 31, 32, 33, 44, 45, 46, 47, 17, 48, 49, 50, 51, 52, 53, 14, 54, 55, 56, 57, 58, 15, 59, 60, 61, 62, 63, 64, 65, 66, 67, 68, 69, 70, 71, 72, 73, 74, 75, 76, 77, 78, 79, 80, 81, 82, 83, 13, 84, 85, 86, 87, 88, 89, 90, 91, 92, 93, 94, 95, 96, 97, 98, 16, 99, 100, 101, 102, 103, 114, 115, 116, 117, 118, 119, 120, 121, 122, 123, 124, 125, 126, 127, 128, 129, 130, 131, 132, 133, 134, 135, 136, 137, 138, 139, 140, 141] rfl (by decide +kernel)
set_option maxRecDepth 20000 in
theorem gX1_runOneByOne_X0_doNext : GoodIn wsX1_runOneByOne (wsV RX1 47 RX0 yX0_doNext wsX0_doNext) := goodIn_app (goodIn_of _ (by decide +kernel)) ggX1_runOneByOne_X0_doNext
set_option maxRecDepth 20000 in
theorem ggX1_runOneByOne_X5_publish : GoodIn wsX1_runOneByOne wsX5_publish := goodIn_r _ [107, 108, 64, 73, 79, 109, 110, 56, 57, 7, 58, 15, 114, 115, 116, 117, 118, 119, 120, 121, 122, 123, 124, 125, 126, 127, 128, 129, 130, 131, 138, 139, 140, 141] rfl (by decide +kernel)
set_option maxRecDepth 20000 in
theorem gX1_runOneByOne_X5_publish : GoodIn wsX1_runOneByOne (wsV RX1 51 RX5 yX5_publish wsX5_publish) := goodIn_app (goodIn_of _ (by decide +kernel)) ggX1_runOneByOne_X5_publish
set_option maxRecDepth 20000 in
theorem ggX1_formGroups_X1_joinTouching : GoodIn wsX1_formGroups wsX1_joinTouching := goodIn_r _ [8, 1, 2, 3, 9, 10, 11, 12, 13, 14, 15, 16, 17, 18, 7, 19, 20, 21, 22, 23, 24, 25, 26, 27, 28, 29, 30, 31, 32, 33, 34, 35, 36, 37, 38, 39, 40, 41, 42, 43, 44] rfl (by decide +kernel)
set_option maxRecDepth 20000 in
theorem gX1_formGroups_X1_joinTouching : GoodIn wsX1_formGroups (wsV RX1 58 RX1 yX1_joinTouching wsX1_joinTouching) := goodIn_app (goodIn_of _ (by decide +kernel)) ggX1_formGroups_X1_joinTouching
set_option maxRecDepth 20000 in
theorem ggX1_joinTouching_X0_touched : GoodIn wsX1_joinTouching wsX0_touched := goodIn_r _ [8, 9, 10, 23, 24, 25, 26, 27, 28, 29, 30, 31, 32, 33, 34, 35, 36, 37, 38, 39, 40] rfl (by decide +kernel)
set_option maxRecDepth 20000 in
theorem gX1_joinTouching_X0_touched : GoodIn wsX1_joinTouching (wsV RX1 61 RX0 yX0_touched wsX0_touched) := goodIn_app (goodIn_of _ (by decide +kernel)) ggX1_joinTouching_X0_touched
set_option maxRecDepth 20000 in
theorem ggX1_joinTouching_X1_joinGroups : GoodIn wsX1_joinTouching wsX1_joinGroups := goodIn_r _ [15, 16, 17, 18, 19, 1, 2, 3, 20, 21, 22, 23, 24, 25, 26, 27, 28, 29, 30, 31, 32, 33, 34, 35, 36, 37, 38, 39, 40] rfl (by decide +kernel)
set_option maxRecDepth 20000 in
theorem gX1_joinTouching_X1_joinGroups : GoodIn wsX1_joinTouching (wsV RX1 65 RX1 yX1_joinGroups wsX1_joinGroups) := goodIn_app (goodIn_of _ (by decide +kernel)) ggX1_joinTouching_X1_joinGroups
set_option maxRecDepth 20000 in
theorem ggX1_tellCall_X0_countWritten : GoodIn wsX1_tellCall wsX0_countWritten := goodIn_r _ [12, 13, 14, 15, 16, 17, 18, 19, 20, 24, 25, 26, 27, 28, 29, 30, 31, 32, 33, 34, 35, 36, 37, 38, 39, 40, 41] rfl (by decide +kernel)
set_option maxRecDepth 20000 in
theorem gX1_tellCall_X0_countWritten : GoodIn wsX1_tellCall (wsV RX1 98 RX0 yX0_countWritten wsX0_countWritten) := goodIn_app (goodIn_of _ (by decide +kernel)) ggX1_tellCall_X0_countWritten
set_option maxRecDepth 20000 in
theorem ggX4_allows_X4_isRegister : GoodIn wsX4_allows wsX4_isRegister := goodIn_r _ [4] rfl (by decide +kernel)
set_option maxRecDepth 20000 in
theorem gX4_allows_X4_isRegister : GoodIn wsX4_allows (va_wsS RX4 11 yX4_isRegister wsX4_isRegister) := goodIn_app (goodIn_of _ (by decide +kernel)) ggX4_allows_X4_isRegister
set_option maxRecDepth 20000 in
theorem ggX4_allows_X4_hasSecond : GoodIn wsX4_allows wsX4_hasSecond := goodIn_r _ [7] rfl (by decide +kernel)
set_option maxRecDepth 20000 in
theorem gX4_allows_X4_hasSecond : GoodIn wsX4_allows (va_wsS RX4 15 yX4_hasSecond wsX4_hasSecond) := goodIn_app (goodIn_of _ (by decide +kernel)) ggX4_allows_X4_hasSecond
set_option maxRecDepth 20000 in
theorem ggX4_allows_X4_allowsValue : GoodIn wsX4_allows wsX4_allowsValue := goodIn_r _ [10, 11] rfl (by decide +kernel)
set_option maxRecDepth 20000 in
theorem gX4_allows_X4_allowsValue : GoodIn wsX4_allows (va_wsS RX4 18 yX4_allowsValue wsX4_allowsValue) := goodIn_app (goodIn_of _ (by decide +kernel)) ggX4_allows_X4_allowsValue
set_option maxRecDepth 20000 in
theorem ggX5_open_J7_fill_53178 : GoodIn wsX5_open wsJ7_fill_53178 := goodIn_r _ [10] rfl (by decide +kernel)
set_option maxRecDepth 20000 in
theorem gX5_open_J7_fill_53178 : GoodIn wsX5_open (va_wsS RX5 31 yJ7_fill_53178 wsJ7_fill_53178) := goodIn_app (goodIn_of _ (by decide +kernel)) ggX5_open_J7_fill_53178
set_option maxRecDepth 20000 in
theorem ggX5_valueAfter_X5_writerBelow : GoodIn wsX5_valueAfter wsX5_writerBelow := goodIn_r _ [5, 6, 13, 14, 15, 16] rfl (by decide +kernel)
set_option maxRecDepth 20000 in
theorem gX5_valueAfter_X5_writerBelow : GoodIn wsX5_valueAfter (wsV RX5 37 RX5 yX5_writerBelow wsX5_writerBelow) := goodIn_app (goodIn_of _ (by decide +kernel)) ggX5_valueAfter_X5_writerBelow
end
section
set_option maxRecDepth 20000 in
theorem ggX5_valueAfter_X5_valueOf : GoodIn wsX5_valueAfter wsX5_valueOf := goodIn_r _ [10, 11, 12, 13, 14, 15, 16] rfl (by decide +kernel)
set_option maxRecDepth 20000 in
theorem gX5_valueAfter_X5_valueOf : GoodIn wsX5_valueAfter (wsV RX5 41 RX5 yX5_valueOf wsX5_valueOf) := goodIn_app (goodIn_of _ (by decide +kernel)) ggX5_valueAfter_X5_valueOf
set_option maxRecDepth 20000 in
theorem ggX5_publish_X0_hasWritten : GoodIn wsX5_publish wsX0_hasWritten := goodIn_r _ [10, 11, 12, 13, 14, 15, 16, 17, 18, 19, 20, 21, 22, 23, 24, 25, 26, 27, 28, 29] rfl (by decide +kernel)
set_option maxRecDepth 20000 in
theorem gX5_publish_X0_hasWritten : GoodIn wsX5_publish (wsV RX5 51 RX0 yX0_hasWritten wsX0_hasWritten) := goodIn_app (goodIn_of _ (by decide +kernel)) ggX5_publish_X0_hasWritten
set_option maxRecDepth 20000 in
theorem ggX6_open_X1_open : GoodIn wsX6_open wsX1_open := goodIn_r _ [21, 22, 23, 24, 25, 26, 27, 28, 29, 30, 31, 32, 33, 34, 35, 36, 37, 38, 39, 40, 41, 42, 43, 44, 45, 46, 47, 69, 70, 71, 72, 73, 74, 75, 76, 77, 78, 79, 80, 81, 82, 83, 84, 85, 86, 87, 88, 89, 90, 91, 92, 93, 94, 95, 96, 97, 98, 99] rfl (by decide +kernel)
set_option maxRecDepth 20000 in
theorem gX6_open_X1_open : GoodIn wsX6_open (wsV RX6 44 RX1 yX1_open wsX1_open) := goodIn_app (goodIn_of _ (by decide +kernel)) ggX6_open_X1_open
set_option maxRecDepth 20000 in
theorem ggX6_open_J7_fill_53178 : GoodIn wsX6_open wsJ7_fill_53178 := goodIn_r _ [40] rfl (by decide +kernel)
set_option maxRecDepth 20000 in
theorem gX6_open_J7_fill_53178 : GoodIn wsX6_open (va_wsS RX6 80 yJ7_fill_53178 wsJ7_fill_53178) := goodIn_app (goodIn_of _ (by decide +kernel)) ggX6_open_J7_fill_53178
set_option maxRecDepth 20000 in
theorem ggX6_work_X6_isDone : GoodIn wsX6_work wsX6_isDone := goodIn_r _ [11, 12, 6, 13, 14, 3, 15, 226, 227, 228, 229, 230, 231, 232, 233, 234, 235, 236, 237, 238, 239, 240, 241, 242, 243, 244, 245] rfl (by decide +kernel)
set_option maxRecDepth 20000 in
theorem gX6_work_X6_isDone : GoodIn wsX6_work (wsV RX6 87 RX6 yX6_isDone wsX6_isDone) := goodIn_app (goodIn_of _ (by decide +kernel)) ggX6_work_X6_isDone
set_option maxRecDepth 20000 in
theorem ggX6_work_X6_step : GoodIn wsX6_work wsX6_step := goodIn_r _ [19, 15, 20, 21, 22, 10, 23, 24, 6, 25, 26, 27, 28, 29, 30, 31, 32, 33, 34, 35, 36, 37, 38, 39, 40, 41, 42, 43, 44, 45, 46, 47, 48, 49, 50, 51, 52, 53, 54, 55, 56, 57, 58, 59, 60, 61, 62, 63, 64, 65, 66, 67, 68, 69, 70, 71, 72, 73, 74, 75, 76, 77, 78, 79, 80, 81, 82, 83, 84, 85, 86, 87, 88, 89, 90, 91, 92, 93, 94, 95, 96, 97, 98, 99, 100, 101, 102, 103, 104, 105, 106, 107, 108, 109, 110, 111, 112, 113, 114, 115, 116, 117, 118, 119, 120, 121, 122, 123, 124, 125, 126, 127, 128, 129, 130, 131, 132, 133, 134, 135, 136, 137, 138, 14, 139, 140, 141, 142, 143, 144, 145, 146, 147, 148, 149, 13, 12, 150, 151, 152, 153, 154, 155, 156, 157, 158, 159, 160, 161, 162, 163, 4, 164, 165, 166, 167, 168, 169, 170, 171, 172, 173, 174, 175, 176, 177, 178, 179, 180, 181, 182, 183, 184, 185, 186, 187, 188, 189, 190, 191, 192, 193, 194, 195, 226, 227, 228, 229, 230, 231, 232, 233, 234, 235, 236, 237, 238, 239, 240, 241, 242, 243, 244, 245, 246, 247, 248, 249, 250, 251, 252, 253, 254, 255, 256, 257, 258, 259, 260, 261, 262, 263, 264, 265, 266, 267, 268, 269, 270, 271, 272, 273, 274, 275, 276] rfl (by decide +kernel)
set_option maxRecDepth 20000 in
theorem gX6_work_X6_step : GoodIn wsX6_work (wsV RX6 92 RX6 yX6_step wsX6_step) := goodIn_app (goodIn_of _ (by decide +kernel)) ggX6_work_X6_step
set_option maxRecDepth 20000 in
theorem ggX6_work_X1_runOneByOne : GoodIn wsX6_work wsX1_runOneByOne := goodIn_r _ [200, 201, 202, 203, 204, 184, 185, 30, 186, 187, 33, 38, 44, 95, 63, 69, 111, 56, 188, 189, 190, 191, 205, 41, 42, 43, 32, 45, 46, 47, 48, 49, 50, 51, 206, 28, 29, 31, 34, 35, 36, 37, 39, 40, 52, 53, 54, 55, 57, 58, 59, 60, 61, 62, 64, 65, 66, 67, 68, 70, 71, 72, 73, 74, 75, 76, 77, 78, 79, 80, 81, 82, 83, 84, 85, 86, 87, 88, 89, 90, 91, 92, 93, 94, 96, 97, 98, 99, 100, 101, 102, 103, 104, 105, 106, 107, 108, 109, 110, 112, 113, 114, 115, 116, 207, 140, 141, 142, 143, 144, 145, 243, 244, 245, 246, 247, 248, 249, 250, 251, 252, 253, 254, 255, 256, 257, 258, 259, 260, 261, 262, 263, 264, 265, 266, 267, 268, 269, 270, 271, 272, 273] rfl (by decide +kernel)
set_option maxRecDepth 20000 in
theorem gX6_work_X1_runOneByOne : GoodIn wsX6_work (wsV RX6 96 RX1 yX1_runOneByOne wsX1_runOneByOne) := goodIn_app (goodIn_of _ (by decide +kernel)) ggX6_work_X1_runOneByOne
set_option maxRecDepth 20000 in
theorem ggX6_work_X1_formGroups : GoodIn wsX6_work wsX1_formGroups := goodIn_r _ [211, 201, 202, 212, 213, 214, 215, 199, 216, 217, 218, 219, 30, 220, 63, 69, 221, 222, 223, 224, 225, 151, 152, 153, 243, 244, 245, 246, 247, 248, 249, 250, 251, 252, 253, 254, 255, 256, 257, 258, 259, 260, 261, 262, 263] rfl (by decide +kernel)
set_option maxRecDepth 20000 in
theorem gX6_work_X1_formGroups : GoodIn wsX6_work (wsV RX6 100 RX1 yX1_formGroups wsX1_formGroups) := goodIn_app (goodIn_of _ (by decide +kernel)) ggX6_work_X1_formGroups
set_option maxRecDepth 20000 in
theorem ggX6_step_X6_goOn : GoodIn wsX6_step wsX6_goOn := goodIn_r _ [6, 7, 8, 9, 10, 11, 12, 13, 14, 15, 16, 17, 18, 19, 20, 21, 22, 23, 24, 25, 26, 27, 28, 29, 30, 31, 32, 33, 34, 35, 36, 37, 38, 39, 40, 41, 42, 43, 44, 45, 46, 47, 48, 49, 50, 51, 52, 53, 54, 55, 56, 57, 58, 59, 60, 61, 62, 63, 64, 65, 66, 67, 68, 69, 70, 71, 72, 73, 74, 75, 76, 77, 78, 79, 80, 81, 82, 83, 84, 85, 86, 87, 88, 89, 90, 91, 92, 93, 94, 95, 96, 97, 98, 99, 100, 101, 102, 103, 5, 104, 1, 105, 106, 107, 108, 109, 110, 111, 112, 113, 114, 115, 116, 117, 118, 119, 120, 121, 122, 123, 124, 125, 126, 127, 128, 129, 130, 131, 132, 133, 134, 135, 136, 137, 138, 139, 140, 141, 142, 143, 144, 145, 184, 185, 186, 187, 188, 189, 190, 191, 192, 193, 194, 195, 196, 197, 198, 199, 200, 201, 202, 203, 204, 205, 206, 207, 208, 209, 210, 211, 212, 213, 214, 215, 216, 217, 218, 219, 220, 221, 222, 223, 224, 225, 226, 227, 228, 229, 230, 231, 232, 233, 234] rfl (by decide +kernel)
set_option maxRecDepth 20000 in
theorem gX6_step_X6_goOn : GoodIn wsX6_step (wsV RX6 106 RX6 yX6_goOn wsX6_goOn) := goodIn_app (goodIn_of _ (by decide +kernel)) ggX6_step_X6_goOn
set_option maxRecDepth 20000 in
theorem ggX6_step_X6_look : GoodIn wsX6_step wsX6_look := goodIn_r _ [149, 7, 1, 150, 105, 122, 145, 8, 9, 10, 108, 151, 136, 152, 153, 154, 14, 155, 79, 80, 16, 81, 82, 54, 55, 56, 57, 58, 59, 60, 61, 62, 63, 64, 65, 66, 67, 68, 156, 109, 110, 111, 112, 113, 114, 115, 116, 157, 158, 159, 5, 160, 161, 123, 137, 138, 139, 140, 162, 163, 164, 165, 166, 167, 168, 169, 170, 171, 172, 173, 174, 175, 17, 22, 28, 47, 53, 95, 40, 176, 177, 178, 179, 184, 185, 186, 187, 188, 189, 190, 191, 192, 193, 194, 195, 196, 197, 198, 199, 200, 201, 202, 203, 204, 205, 206, 207, 208, 209, 210, 211, 212, 213, 214, 215, 216, 217, 218, 219, 220, 221, 228, 229, 230, 231, 232, 233, 234] rfl (by decide +kernel)
set_option maxRecDepth 20000 in
theorem gX6_step_X6_look : GoodIn wsX6_step (wsV RX6 109 RX6 yX6_look wsX6_look) := goodIn_app (goodIn_of _ (by decide +kernel)) ggX6_step_X6_look
set_option maxRecDepth 20000 in
theorem ggX6_step_X6_takeTask : GoodIn wsX6_step wsX6_takeTask := goodIn_r _ [183, 123, 136, 105, 8, 135, 141, 142, 143, 5, 144, 1, 7, 145, 122, 167, 168, 169, 170, 9, 171, 172, 173, 14, 174, 175, 17, 22, 28, 79, 47, 53, 95, 40, 176, 177, 178, 179, 184, 185, 186, 187, 188, 189, 190, 191, 192, 193, 194, 195, 196, 197, 198, 199, 200, 201, 202, 203, 204, 205, 206, 207, 208, 209, 210, 211, 212, 213, 214, 215, 216, 217, 218, 219, 220, 221] rfl (by decide +kernel)
set_option maxRecDepth 20000 in
theorem gX6_step_X6_takeTask : GoodIn wsX6_step (wsV RX6 113 RX6 yX6_takeTask wsX6_takeTask) := goodIn_app (goodIn_of _ (by decide +kernel)) ggX6_step_X6_takeTask
set_option maxRecDepth 20000 in
theorem ggX6_takeTask_X6_giveLook : GoodIn wsX6_takeTask wsX6_giveLook := goodIn_r _ [10, 11, 12, 13, 14, 38, 39, 40, 41, 42, 43, 44, 45, 46, 47, 48, 49, 50, 51, 52, 53, 54] rfl (by decide +kernel)
set_option maxRecDepth 20000 in
theorem gX6_takeTask_X6_giveLook : GoodIn wsX6_takeTask (wsV RX6 116 RX6 yX6_giveLook wsX6_giveLook) := goodIn_app (goodIn_of _ (by decide +kernel)) ggX6_takeTask_X6_giveLook
set_option maxRecDepth 20000 in
theorem ggX6_takeTask_X6_giveRun : GoodIn wsX6_takeTask wsX6_giveRun := goodIn_r _ [18, 11, 12, 3, 4, 19, 20, 21, 22, 23, 24, 25, 26, 27, 28, 29, 30, 31, 32, 33, 34, 35, 36, 37, 38, 39, 40, 41, 42, 43, 44, 45, 46, 47, 48, 49, 50, 51, 52, 53, 54, 55, 56, 57, 58, 59, 60, 61, 62, 63, 64, 65, 66, 67, 68, 69, 70, 71, 72, 73, 74, 75] rfl (by decide +kernel)
set_option maxRecDepth 20000 in
theorem gX6_takeTask_X6_giveRun : GoodIn wsX6_takeTask (wsV RX6 120 RX6 yX6_giveRun wsX6_giveRun) := goodIn_app (goodIn_of _ (by decide +kernel)) ggX6_takeTask_X6_giveRun
set_option maxRecDepth 20000 in
theorem ggX6_giveRun_X0_begin : GoodIn wsX6_giveRun wsX0_begin := goodIn_r _ [10, 11, 12, 13, 14, 15, 16, 17, 18, 19, 20, 21, 22, 23, 44, 45, 46, 47, 48, 49, 50, 51, 52, 53, 54, 55, 56, 57, 58, 59, 60, 61] rfl (by decide +kernel)
set_option maxRecDepth 20000 in
theorem gX6_giveRun_X0_begin : GoodIn wsX6_giveRun (wsV RX6 127 RX0 yX0_begin wsX0_begin) := goodIn_app (goodIn_of _ (by decide +kernel)) ggX6_giveRun_X0_begin
set_option maxRecDepth 20000 in
theorem ggX6_goOn_X0_doNext : GoodIn wsX6_goOn wsX0_doNext := goodIn_r _ [9, 10, 11, 12, 13, 14, 15, 16, 17, 18, 19, 20, 8, 21, 22, 23, 24, 25, 26, 27, 28, 29, 30, 31, 32, 33, 34, 35, 36, 37, 38, 39, 40, 41, 42, 43, 44, 45, 46, 47, 48, 49, 50, 51, 52, 53, 54, 55, 56, 57, 58, 59, 60, 61, 62, 63, 64, 65, 66, 67, 68, 69, 70, 71, 72, 73, 74, 75, 76, 77, 78, 79, 80, 81, 82, 83, 84, 85, 86, 87, 88, 89, 90, 91, 92, 93, 94, 162, 163, 164, 165, 166, 167, 168, 169, 170, 171, 172, 173, 174, 175, 176, 177, 178, 179, 180, 181, 182, 183, 184, 185, 186, 187, 188, 189] rfl (by decide +kernel)
set_option maxRecDepth 20000 in
theorem gX6_goOn_X0_doNext : GoodIn wsX6_goOn (wsV RX6 136 RX0 yX0_doNext wsX0_doNext) := goodIn_app (goodIn_of _ (by decide +kernel)) ggX6_goOn_X0_doNext
set_option maxRecDepth 20000 in
theorem ggX6_goOn_X6_giveUp : GoodIn wsX6_goOn wsX6_giveUp := goodIn_r _ [99, 100, 101, 102, 103, 104, 105, 106, 107, 108, 109, 110, 111, 112, 142, 143, 144, 145, 146, 147, 148, 149, 150, 151, 152, 153, 154, 155, 156, 157, 158, 190, 191, 192] rfl (by decide +kernel)
set_option maxRecDepth 20000 in
theorem gX6_goOn_X6_giveUp : GoodIn wsX6_goOn (wsV RX6 140 RX6 yX6_giveUp wsX6_giveUp) := goodIn_app (goodIn_of _ (by decide +kernel)) ggX6_goOn_X6_giveUp
set_option maxRecDepth 20000 in
theorem ggX6_goOn_X0_isOver : GoodIn wsX6_goOn wsX0_isOver := goodIn_r _ [21, 22, 10, 11, 23, 24, 25, 26, 27, 28, 29, 162, 163, 164, 165, 166, 167, 168, 169, 170, 171, 172, 173, 174, 175, 176, 177, 178, 179, 180, 181, 182, 183, 184, 185] rfl (by decide +kernel)
set_option maxRecDepth 20000 in
theorem gX6_goOn_X0_isOver : GoodIn wsX6_goOn (wsV RX6 144 RX0 yX0_isOver wsX0_isOver) := goodIn_app (goodIn_of _ (by decide +kernel)) ggX6_goOn_X0_isOver
set_option maxRecDepth 20000 in
theorem ggX6_goOn_X6_end : GoodIn wsX6_goOn wsX6_end := goodIn_r _ [117, 100, 2, 4, 3, 118, 101, 119, 120, 121, 122, 51, 123, 124, 53, 62, 68, 125, 126, 44, 45, 8, 46, 47, 127, 128, 129, 98, 130, 131, 102, 132, 133, 134, 135, 136, 137, 138, 139, 140, 1, 141, 142, 143, 144, 145, 146, 147, 148, 149, 150, 151, 152, 153, 154, 155, 156, 157, 158, 159, 160, 161, 162, 163, 164, 165, 166, 167, 168, 169, 170, 171, 172, 173, 174, 175, 176, 177, 178, 179, 186, 187, 188, 189] rfl (by decide +kernel)
set_option maxRecDepth 20000 in
theorem gX6_goOn_X6_end : GoodIn wsX6_goOn (wsV RX6 148 RX6 yX6_end wsX6_end) := goodIn_app (goodIn_of _ (by decide +kernel)) ggX6_goOn_X6_end
set_option maxRecDepth 20000 in
theorem ggX6_giveUp_X3_note : GoodIn wsX6_giveUp wsX3_note := goodIn_r _ [10, 11, 12, 13, 31, 32, 33] rfl (by decide +kernel)
set_option maxRecDepth 20000 in
theorem gX6_giveUp_X3_note : GoodIn wsX6_giveUp (wsV RX6 151 RX3 yX3_note wsX3_note) := goodIn_app (goodIn_of _ (by decide +kernel)) ggX6_giveUp_X3_note
set_option maxRecDepth 20000 in
theorem ggX6_end_X5_publish : GoodIn wsX6_end wsX5_publish := goodIn_r _ [12, 13, 14, 15, 16, 17, 18, 19, 20, 21, 22, 23, 62, 63, 64, 65, 66, 67, 68, 69, 70, 71, 72, 73, 74, 75, 76, 77, 78, 79, 80, 81, 82, 83] rfl (by decide +kernel)
set_option maxRecDepth 20000 in
theorem gX6_end_X5_publish : GoodIn wsX6_end (wsV RX6 154 RX5 yX5_publish wsX5_publish) := goodIn_app (goodIn_of _ (by decide +kernel)) ggX6_end_X5_publish
set_option maxRecDepth 20000 in
theorem ggX6_end_X6_wakeThoseWaitingFor : GoodIn wsX6_end wsX6_wakeThoseWaitingFor := goodIn_r _ [28, 2, 29, 6, 30, 31, 32, 33, 34, 35, 42, 43, 44, 45, 46, 47, 48, 49, 50, 51, 52, 53, 54, 55, 56, 57, 58, 59, 60, 61] rfl (by decide +kernel)
set_option maxRecDepth 20000 in
theorem gX6_end_X6_wakeThoseWaitingFor : GoodIn wsX6_end (wsV RX6 160 RX6 yX6_wakeThoseWaitingFor wsX6_wakeThoseWaitingFor) := goodIn_app (goodIn_of _ (by decide +kernel)) ggX6_end_X6_wakeThoseWaitingFor
set_option maxRecDepth 20000 in
theorem ggX6_end_X6_giveLook : GoodIn wsX6_end wsX6_giveLook := goodIn_r _ [39, 1, 40, 41, 5, 42, 43, 44, 45, 46, 47, 48, 49, 50, 51, 52, 53, 54, 55, 56, 57, 58] rfl (by decide +kernel)
set_option maxRecDepth 20000 in
theorem gX6_end_X6_giveLook : GoodIn wsX6_end (wsV RX6 116 RX6 yX6_giveLook wsX6_giveLook) := goodIn_app (goodIn_of _ (by decide +kernel)) ggX6_end_X6_giveLook
set_option maxRecDepth 20000 in
theorem ggX6_look_X0_firstChanged : GoodIn wsX6_look wsX0_firstChanged := goodIn_r _ [17, 18, 19, 20, 21, 22, 23, 24, 25, 26, 27, 28, 29, 30, 31, 32, 33, 34, 35, 36, 37, 103, 104, 105, 106, 107, 108, 109, 110, 111, 112, 113, 114, 115, 116, 117, 118, 119, 120, 121, 122, 123, 124] rfl (by decide +kernel)
set_option maxRecDepth 20000 in
theorem gX6_look_X0_firstChanged : GoodIn wsX6_look (wsV RX6 169 RX0 yX0_firstChanged wsX0_firstChanged) := goodIn_app (goodIn_of _ (by decide +kernel)) ggX6_look_X0_firstChanged
set_option maxRecDepth 20000 in
theorem ggX6_look_X5_writerBelow : GoodIn wsX6_look wsX5_writerBelow := goodIn_r _ [27, 28, 121, 122, 123, 124] rfl (by decide +kernel)
set_option maxRecDepth 20000 in
theorem gX6_look_X5_writerBelow : GoodIn wsX6_look (wsV RX6 173 RX5 yX5_writerBelow wsX5_writerBelow) := goodIn_app (goodIn_of _ (by decide +kernel)) ggX6_look_X5_writerBelow
set_option maxRecDepth 20000 in
theorem ggX6_look_X3_note : GoodIn wsX6_look wsX3_note := goodIn_r _ [43, 44, 45, 46, 125, 126, 127] rfl (by decide +kernel)
set_option maxRecDepth 20000 in
theorem gX6_look_X3_note : GoodIn wsX6_look (wsV RX6 151 RX3 yX3_note wsX3_note) := goodIn_app (goodIn_of _ (by decide +kernel)) ggX6_look_X3_note
set_option maxRecDepth 20000 in
theorem ggX6_look_X6_undo : GoodIn wsX6_look wsX6_undo := goodIn_r _ [51, 52, 7, 9, 5, 4, 53, 54, 55, 56, 57, 58, 11, 59, 60, 61, 26, 62, 28, 83, 84, 85, 86, 87, 88, 89, 90, 91, 92, 93, 94, 95, 96, 97, 98, 99, 100, 101, 102, 121, 122, 123, 124] rfl (by decide +kernel)
set_option maxRecDepth 20000 in
theorem gX6_look_X6_undo : GoodIn wsX6_look (wsV RX6 176 RX6 yX6_undo wsX6_undo) := goodIn_app (goodIn_of _ (by decide +kernel)) ggX6_look_X6_undo
set_option maxRecDepth 20000 in
theorem ggX6_look_X6_giveRun : GoodIn wsX6_look wsX6_giveRun := goodIn_r _ [66, 2, 1, 4, 7, 8, 67, 68, 69, 16, 70, 71, 72, 73, 74, 18, 75, 76, 77, 78, 79, 80, 81, 82, 83, 84, 85, 86, 87, 88, 89, 90, 91, 92, 93, 94, 95, 96, 97, 98, 99, 100, 101, 102, 103, 104, 105, 106, 107, 108, 109, 110, 111, 112, 113, 114, 115, 116, 117, 118, 119, 120] rfl (by decide +kernel)
set_option maxRecDepth 20000 in
theorem gX6_look_X6_giveRun : GoodIn wsX6_look (wsV RX6 120 RX6 yX6_giveRun wsX6_giveRun) := goodIn_app (goodIn_of _ (by decide +kernel)) ggX6_look_X6_giveRun
set_option maxRecDepth 20000 in
theorem ggX6_undo_X5_doubt : GoodIn wsX6_undo wsX5_doubt := goodIn_r _ [17, 18, 39, 40, 41, 42] rfl (by decide +kernel)
set_option maxRecDepth 20000 in
theorem gX6_undo_X5_doubt : GoodIn wsX6_undo (wsV RX6 179 RX5 yX5_doubt wsX5_doubt) := goodIn_app (goodIn_of _ (by decide +kernel)) ggX6_undo_X5_doubt
set_option maxRecDepth 20000 in
theorem ggX6_tell_X1_countActs : GoodIn wsX6_tell wsX1_countActs := goodIn_r _ [12, 13, 14, 15, 38, 39, 40, 41, 42, 43, 44, 45, 46, 47, 48, 49, 50, 51, 52, 53, 54, 55, 56, 57, 58] rfl (by decide +kernel)
set_option maxRecDepth 20000 in
theorem gX6_tell_X1_countActs : GoodIn wsX6_tell (wsV RX6 182 RX1 yX1_countActs wsX1_countActs) := goodIn_app (goodIn_of _ (by decide +kernel)) ggX6_tell_X1_countActs
set_option maxRecDepth 20000 in
theorem ggX6_tell_X1_countGroups : GoodIn wsX6_tell wsX1_countGroups := goodIn_r _ [19, 13, 14, 20, 38, 39, 40, 41, 42, 43, 44, 45, 46, 47, 48, 49, 50, 51, 52, 53, 54, 55, 56, 57, 58] rfl (by decide +kernel)
set_option maxRecDepth 20000 in
theorem gX6_tell_X1_countGroups : GoodIn wsX6_tell (wsV RX6 186 RX1 yX1_countGroups wsX1_countGroups) := goodIn_app (goodIn_of _ (by decide +kernel)) ggX6_tell_X1_countGroups
set_option maxRecDepth 20000 in
theorem ggX7_call_X2_addCall : GoodIn wsX7_call wsX2_addCall := goodIn_r _ [6, 7, 8, 14, 15, 16, 17, 18, 19] rfl (by decide +kernel)
set_option maxRecDepth 20000 in
theorem gX7_call_X2_addCall : GoodIn wsX7_call (wsV RX7 38 RX2 yX2_addCall wsX2_addCall) := goodIn_app (goodIn_of _ (by decide +kernel)) ggX7_call_X2_addCall
set_option maxRecDepth 20000 in
theorem ggX7_act_X4_allows : GoodIn wsX7_act wsX4_allows := goodIn_r _ [5, 6, 7, 4, 8, 9, 10, 11, 12, 13, 14, 15] rfl (by decide +kernel)
set_option maxRecDepth 20000 in
theorem gX7_act_X4_allows : GoodIn wsX7_act (va_wsS RX7 42 yX4_allows wsX4_allows) := goodIn_app (goodIn_of _ (by decide +kernel)) ggX7_act_X4_allows
set_option maxRecDepth 20000 in
theorem ggX7_act_X2_addAct : GoodIn wsX7_act wsX2_addAct := goodIn_r _ [20, 21, 22, 23, 24, 25, 26, 32, 33, 34, 35, 36, 37] rfl (by decide +kernel)
set_option maxRecDepth 20000 in
theorem gX7_act_X2_addAct : GoodIn wsX7_act (wsV RX7 48 RX2 yX2_addAct wsX2_addAct) := goodIn_app (goodIn_of _ (by decide +kernel)) ggX7_act_X2_addAct
set_option maxRecDepth 20000 in
theorem ggX7_clear_X2_dropCalls : GoodIn wsX7_clear wsX2_dropCalls := goodIn_r _ [6, 7, 13, 14, 15, 16, 17, 18] rfl (by decide +kernel)
set_option maxRecDepth 20000 in
theorem gX7_clear_X2_dropCalls : GoodIn wsX7_clear (wsV RX7 52 RX2 yX2_dropCalls wsX2_dropCalls) := goodIn_app (goodIn_of _ (by decide +kernel)) ggX7_clear_X2_dropCalls
set_option maxRecDepth 20000 in
theorem ggX7_leaf_X7_isLeaf : GoodIn wsX7_leaf wsX7_isLeaf := goodIn_r _ [5] rfl (by decide +kernel)
set_option maxRecDepth 20000 in
theorem gX7_leaf_X7_isLeaf : GoodIn wsX7_leaf (va_wsS RX7 55 yX7_isLeaf wsX7_isLeaf) := goodIn_app (goodIn_of _ (by decide +kernel)) ggX7_leaf_X7_isLeaf
end
section
set_option maxRecDepth 20000 in
theorem ggX7_run_X6_open : GoodIn wsX7_run wsX6_open := goodIn_r _ [12, 13, 14, 15, 16, 17, 18, 19, 20, 21, 22, 23, 24, 25, 26, 27, 28, 29, 30, 31, 32, 33, 34, 35, 36, 37, 38, 39, 40, 41, 42, 43, 44, 45, 46, 47, 48, 49, 50, 51, 52, 53, 54, 55, 56, 57, 58, 59, 60, 274, 275, 276, 277, 278, 279, 280, 281, 282, 283, 284, 285, 286, 287, 288, 289, 290, 294, 295, 296, 297, 298, 299, 300, 301, 302, 291, 292, 293, 303, 304, 305, 306, 307, 308, 309, 310, 311, 312, 313, 314, 315, 316, 317, 318, 319, 320, 321, 322, 323, 324] rfl (by decide +kernel)
set_option maxRecDepth 20000 in
theorem gX7_run_X6_open : GoodIn wsX7_run (wsV RX7 59 RX6 yX6_open wsX6_open) := goodIn_app (goodIn_of _ (by decide +kernel)) ggX7_run_X6_open
set_option maxRecDepth 20000 in
theorem ggX7_run_X6_work : GoodIn wsX7_run wsX6_work := goodIn_r _ [64, 16, 65, 21, 20, 66, 13, 67, 68, 69, 11, 70, 23, 71, 24, 28, 72, 73, 74, 75, 76, 77, 78, 79, 80, 81, 82, 83, 84, 85, 56, 86, 87, 88, 89, 90, 91, 92, 93, 59, 94, 95, 96, 97, 98, 99, 100, 101, 102, 103, 104, 105, 106, 107, 108, 109, 110, 111, 112, 113, 114, 115, 116, 117, 118, 119, 120, 121, 122, 123, 124, 125, 126, 41, 127, 48, 128, 129, 130, 131, 132, 133, 134, 135, 136, 137, 138, 139, 140, 43, 141, 142, 143, 144, 145, 146, 147, 148, 149, 150, 151, 152, 153, 154, 155, 156, 157, 158, 159, 160, 161, 162, 163, 164, 165, 166, 167, 168, 169, 170, 171, 25, 26, 19, 14, 172, 173, 174, 175, 176, 177, 178, 179, 180, 181, 182, 183, 184, 27, 185, 186, 187, 188, 189, 190, 191, 192, 193, 194, 195, 196, 197, 198, 199, 200, 201, 202, 203, 204, 205, 206, 207, 208, 17, 209, 210, 211, 212, 213, 214, 215, 216, 217, 18, 22, 218, 219, 220, 221, 222, 223, 224, 225, 226, 227, 228, 229, 58, 230, 231, 51, 232, 233, 234, 235, 236, 237, 238, 239, 32, 240, 35, 37, 36, 241, 242, 243, 244, 245, 246, 247, 248, 249, 250, 251, 252, 253, 254, 255, 256, 257, 258, 259, 260, 261, 262, 274, 275, 276, 277, 278, 279, 280, 281, 282, 283, 284, 285, 286, 287, 288, 289, 290, 291, 292, 293, 307, 308, 309, 310, 311, 312, 313, 314, 315, 316, 317, 318, 319, 320, 321, 322, 323, 324, 297, 298, 299, 300, 301, 302, 303, 304, 305, 306, 294, 295, 296] rfl (by decide +kernel)
set_option maxRecDepth 20000 in
theorem gX7_run_X6_work : GoodIn wsX7_run (wsV RX7 63 RX6 yX6_work wsX6_work) := goodIn_app (goodIn_of _ (by decide +kernel)) ggX7_run_X6_work
set_option maxRecDepth 20000 in
theorem ggX7_run_X5_valueAfter : GoodIn wsX7_run wsX5_valueAfter := goodIn_r _ [266, 267, 125, 126, 41, 127, 48, 268, 138, 139, 140, 43, 141, 303, 304, 305, 306] rfl (by decide +kernel)
set_option maxRecDepth 20000 in
theorem gX7_run_X5_valueAfter : GoodIn wsX7_run (wsV RX7 74 RX5 yX5_valueAfter wsX5_valueAfter) := goodIn_app (goodIn_of _ (by decide +kernel)) ggX7_run_X5_valueAfter
set_option maxRecDepth 20000 in
theorem ggX7_at_X7_isLeaf : GoodIn wsX7_at wsX7_isLeaf := goodIn_r _ [5] rfl (by decide +kernel)
set_option maxRecDepth 20000 in
theorem gX7_at_X7_isLeaf : GoodIn wsX7_at (va_wsS RX7 55 yX7_isLeaf wsX7_isLeaf) := goodIn_app (goodIn_of _ (by decide +kernel)) ggX7_at_X7_isLeaf
set_option maxRecDepth 20000 in
theorem ggX7_inOrder_X7_isLeaf : GoodIn wsX7_inOrder wsX7_isLeaf := goodIn_r _ [8] rfl (by decide +kernel)
set_option maxRecDepth 20000 in
theorem gX7_inOrder_X7_isLeaf : GoodIn wsX7_inOrder (va_wsS RX7 55 yX7_isLeaf wsX7_isLeaf) := goodIn_app (goodIn_of _ (by decide +kernel)) ggX7_inOrder_X7_isLeaf
set_option maxRecDepth 20000 in
theorem ggX7_inOrder_X1_open : GoodIn wsX7_inOrder wsX1_open := goodIn_r _ [13, 14, 15, 16, 17, 18, 19, 20, 21, 22, 23, 24, 25, 26, 27, 28, 29, 30, 31, 32, 33, 34, 35, 36, 37, 38, 39, 158, 159, 160, 161, 162, 163, 155, 156, 157, 164, 165, 166, 167, 168, 169, 170, 171, 172, 173, 174, 175, 176, 177, 178, 179, 180, 181, 182, 183, 184, 185] rfl (by decide +kernel)
set_option maxRecDepth 20000 in
theorem gX7_inOrder_X1_open : GoodIn wsX7_inOrder (wsV RX7 83 RX1 yX1_open wsX1_open) := goodIn_app (goodIn_of _ (by decide +kernel)) ggX7_inOrder_X1_open
set_option maxRecDepth 20000 in
theorem ggX7_inOrder_X1_runOneByOne : GoodIn wsX7_inOrder wsX1_runOneByOne := goodIn_r _ [43, 15, 17, 16, 44, 45, 46, 36, 47, 38, 48, 49, 50, 51, 52, 53, 54, 55, 56, 57, 31, 58, 59, 60, 61, 62, 63, 64, 65, 66, 67, 68, 69, 70, 71, 72, 73, 74, 75, 76, 77, 78, 39, 79, 80, 81, 82, 83, 84, 85, 86, 87, 88, 89, 90, 91, 92, 93, 94, 95, 96, 97, 21, 98, 28, 99, 100, 101, 102, 103, 104, 105, 106, 107, 108, 109, 110, 111, 23, 112, 113, 114, 115, 116, 117, 118, 119, 120, 121, 122, 123, 124, 125, 126, 127, 128, 129, 130, 131, 132, 133, 134, 135, 136, 137, 138, 139, 140, 141, 142, 143, 155, 156, 157, 168, 169, 170, 171, 172, 173, 174, 175, 176, 177, 178, 179, 180, 181, 182, 183, 184, 185, 158, 159, 160, 161, 162, 163, 164, 165, 166, 167] rfl (by decide +kernel)
set_option maxRecDepth 20000 in
theorem gX7_inOrder_X1_runOneByOne : GoodIn wsX7_inOrder (wsV RX7 86 RX1 yX1_runOneByOne wsX1_runOneByOne) := goodIn_app (goodIn_of _ (by decide +kernel)) ggX7_inOrder_X1_runOneByOne
set_option maxRecDepth 20000 in
theorem ggX7_inOrder_X5_valueAfter : GoodIn wsX7_inOrder wsX5_valueAfter := goodIn_r _ [147, 148, 96, 97, 21, 98, 28, 149, 109, 110, 111, 23, 112, 164, 165, 166, 167] rfl (by decide +kernel)
set_option maxRecDepth 20000 in
theorem gX7_inOrder_X5_valueAfter : GoodIn wsX7_inOrder (wsV RX7 74 RX5 yX5_valueAfter wsX5_valueAfter) := goodIn_app (goodIn_of _ (by decide +kernel)) ggX7_inOrder_X5_valueAfter
set_option maxRecDepth 20000 in
theorem ggX7_events_X1_countEvents : GoodIn wsX7_events wsX1_countEvents := goodIn_r _ [7, 8, 9, 10, 33, 34, 35, 36, 37, 38, 39, 40, 41, 42, 43, 44, 45, 46, 47, 48, 49, 50, 51, 52, 53] rfl (by decide +kernel)
set_option maxRecDepth 20000 in
theorem gX7_events_X1_countEvents : GoodIn wsX7_events (wsV RX7 90 RX1 yX1_countEvents wsX1_countEvents) := goodIn_app (goodIn_of _ (by decide +kernel)) ggX7_events_X1_countEvents
set_option maxRecDepth 20000 in
theorem ggX7_event_X1_tellEvent : GoodIn wsX7_event wsX1_tellEvent := goodIn_r _ [7, 8, 9, 10, 11, 34, 35, 36, 37, 38, 39, 40, 41, 42, 43, 44, 45, 46, 47, 48, 49, 50, 51, 52, 53, 54] rfl (by decide +kernel)
set_option maxRecDepth 20000 in
theorem gX7_event_X1_tellEvent : GoodIn wsX7_event (wsV RX7 93 RX1 yX1_tellEvent wsX1_tellEvent) := goodIn_app (goodIn_of _ (by decide +kernel)) ggX7_event_X1_tellEvent
set_option maxRecDepth 20000 in
theorem ggX7_of_X1_tellCall : GoodIn wsX7_of wsX1_tellCall := goodIn_r _ [7, 8, 9, 10, 11, 12, 13, 14, 15, 16, 17, 18, 19, 20, 21, 22, 23, 24, 25, 26, 27, 50, 51, 52, 53, 54, 55, 56, 57, 58, 59, 60, 61, 62, 63, 64, 65, 66, 67, 68, 69, 70] rfl (by decide +kernel)
set_option maxRecDepth 20000 in
theorem gX7_of_X1_tellCall : GoodIn wsX7_of (wsV RX7 97 RX1 yX1_tellCall wsX1_tellCall) := goodIn_app (goodIn_of _ (by decide +kernel)) ggX7_of_X1_tellCall
set_option maxRecDepth 20000 in
theorem ggX7_conflict_X3_tell : GoodIn wsX7_conflict wsX3_tell := goodIn_r _ [7, 8, 9, 10, 33, 34, 35] rfl (by decide +kernel)
set_option maxRecDepth 20000 in
theorem gX7_conflict_X3_tell : GoodIn wsX7_conflict (wsV RX7 110 RX3 yX3_tell wsX3_tell) := goodIn_app (goodIn_of _ (by decide +kernel)) ggX7_conflict_X3_tell
set_option maxRecDepth 20000 in
theorem ggX7_told_X6_tell : GoodIn wsX7_told wsX6_tell := goodIn_r _ [6, 7, 8, 9, 10, 11, 12, 13, 14, 15, 16, 17, 18, 19, 20, 21, 22, 23, 24, 25, 26, 32, 33, 34, 35, 36, 37, 38, 39, 40, 41, 42, 43, 44, 45, 46, 47, 48, 49, 50, 51, 52, 53, 54, 55, 56, 57, 58, 59, 60, 61, 62, 63, 64, 65, 66, 67, 68, 69] rfl (by decide +kernel)
set_option maxRecDepth 20000 in
theorem gX7_told_X6_tell : GoodIn wsX7_told (wsV RX7 113 RX6 yX6_tell wsX6_tell) := goodIn_app (goodIn_of _ (by decide +kernel)) ggX7_told_X6_tell
set_option maxRecDepth 20000 in
theorem ggX8_doAct_X8_leafOf : GoodIn wsX8_doAct wsX8_leafOf := goodIn_r _ [26, 27] rfl (by decide +kernel)
set_option maxRecDepth 20000 in
theorem gX8_doAct_X8_leafOf : GoodIn wsX8_doAct (va_wsS RX8 166 yX8_leafOf wsX8_leafOf) := goodIn_app (goodIn_of _ (by decide +kernel)) ggX8_doAct_X8_leafOf
set_option maxRecDepth 20000 in
theorem ggX8_doAct_X8_see : GoodIn wsX8_doAct wsX8_see := goodIn_r _ [31, 12, 15, 11, 32, 17, 33, 34, 35, 36, 37, 38, 39, 40, 41, 42, 43, 44, 45, 46, 47, 48, 49, 50, 51, 52, 53, 54, 55, 56, 57, 58, 59, 60, 61, 62, 63, 64, 65, 66, 67, 68, 69, 70, 71, 72, 73, 74, 75, 76, 77, 78, 79, 80, 81, 82, 83, 84, 85, 86, 87, 88, 89, 90, 91, 92, 93, 94, 95, 96, 97] rfl (by decide +kernel)
set_option maxRecDepth 20000 in
theorem gX8_doAct_X8_see : GoodIn wsX8_doAct (wsV RX8 170 RX8 yX8_see wsX8_see) := goodIn_app (goodIn_of _ (by decide +kernel)) ggX8_doAct_X8_see
set_option maxRecDepth 20000 in
theorem ggX8_run_X8_isDone : GoodIn wsX8_run wsX8_isDone := goodIn_r _ [27, 21, 10, 1, 11, 129, 130, 131, 132, 133, 134, 135, 136, 137, 138, 139, 140, 141, 142, 143, 144, 145, 146, 147, 148, 149, 150, 151, 152, 153, 154, 155, 156, 157, 158, 159, 160, 161, 162, 163, 164, 165, 166, 167, 168, 169, 170, 171, 172, 173, 174, 175, 176, 177, 178, 179, 180, 181, 182, 183, 184, 185, 186, 187, 188, 189] rfl (by decide +kernel)
set_option maxRecDepth 20000 in
theorem gX8_run_X8_isDone : GoodIn wsX8_run (wsV RX8 204 RX8 yX8_isDone wsX8_isDone) := goodIn_app (goodIn_of _ (by decide +kernel)) ggX8_run_X8_isDone
set_option maxRecDepth 20000 in
theorem ggX8_run_X8_step : GoodIn wsX8_run wsX8_step := goodIn_r _ [31, 21, 11, 10, 14, 1, 32, 33, 34, 26, 35, 36, 37, 7, 38, 39, 40, 41, 19, 42, 43, 44, 45, 46, 47, 48, 49, 50, 51, 52, 53, 54, 18, 55, 56, 57, 58, 59, 60, 61, 62, 63, 20, 17, 9, 64, 65, 66, 67, 68, 69, 70, 71, 72, 12, 73, 13, 74, 75, 76, 77, 78, 8, 79, 80, 81, 82, 83, 84, 15, 85, 86, 87, 88, 89, 90, 91, 92, 93, 5, 6, 94, 4, 95, 96, 97, 98, 99, 100, 101, 102, 16, 129, 130, 131, 132, 133, 134, 135, 136, 137, 138, 139, 140, 141, 142, 143, 144, 145, 146, 147, 148, 149, 150, 151, 152, 153, 154, 155, 156, 157, 158, 159, 160, 161, 162, 163, 164, 165, 166, 167, 168, 169, 170, 171, 172, 173, 174, 175, 176, 177, 178, 179, 180, 181, 182, 183, 184, 185, 186, 187, 188, 189] rfl (by decide +kernel)
set_option maxRecDepth 20000 in
theorem gX8_run_X8_step : GoodIn wsX8_run (wsV RX8 209 RX8 yX8_step wsX8_step) := goodIn_app (goodIn_of _ (by decide +kernel)) ggX8_run_X8_step
set_option maxRecDepth 20000 in
theorem ggX8_run_X8_allInOrder : GoodIn wsX8_run wsX8_allInOrder := goodIn_r _ [106, 12, 13, 1, 53, 19, 74, 54, 73, 99, 100, 101, 26, 102, 16, 42, 17, 18, 20, 52, 38, 39, 40, 41, 43, 44, 45, 46, 47, 48, 49, 50, 51, 55, 56, 57, 58, 59, 60, 61, 62, 63, 9, 64, 65, 66, 67, 68, 69, 70, 71, 72, 129, 130, 131, 132, 133, 134, 135, 136, 137, 138, 139, 140, 141, 142, 143, 144, 145, 146, 147, 148, 149, 150, 151, 152, 153, 154, 155, 156, 157, 158, 159, 160, 161, 162, 163, 164, 165, 166, 167, 168, 169, 170, 171, 172, 173, 174, 175, 176, 177, 178, 179, 180, 181, 182, 183, 184, 185, 186, 187, 188, 189] rfl (by decide +kernel)
set_option maxRecDepth 20000 in
theorem gX8_run_X8_allInOrder : GoodIn wsX8_run (wsV RX8 213 RX8 yX8_allInOrder wsX8_allInOrder) := goodIn_app (goodIn_of _ (by decide +kernel)) ggX8_run_X8_allInOrder
set_option maxRecDepth 20000 in
theorem ggX8_run_X8_settle : GoodIn wsX8_run wsX8_settle := goodIn_r _ [110, 111, 2, 12, 72, 74, 20, 19, 112, 63, 113, 53, 114, 115, 18, 116, 117, 17, 118, 16, 119, 120, 121, 122, 123, 26, 124, 55, 125, 126, 127, 128, 129, 130, 131, 132, 133, 134, 135, 136, 137, 138, 139, 140, 141, 142, 143, 144, 145, 146, 147, 148, 149, 150, 151, 152, 153, 154, 155, 156, 157, 158, 159, 160, 161, 162, 163, 164, 165, 166, 167, 168, 169, 170, 171, 172, 173, 174, 175, 176, 177, 178, 179, 180, 181, 182, 183, 184, 185, 186, 187, 188, 189] rfl (by decide +kernel)
set_option maxRecDepth 20000 in
theorem gX8_run_X8_settle : GoodIn wsX8_run (wsV RX8 216 RX8 yX8_settle wsX8_settle) := goodIn_app (goodIn_of _ (by decide +kernel)) ggX8_run_X8_settle
set_option maxRecDepth 20000 in
theorem ggX8_step_X8_runStep : GoodIn wsX8_step wsX8_runStep := goodIn_r _ [10, 11, 4, 12, 1, 13, 14, 15, 16, 9, 17, 18, 19, 20, 21, 22, 23, 24, 25, 26, 27, 28, 29, 30, 31, 32, 33, 34, 35, 36, 37, 38, 39, 40, 41, 42, 43, 44, 45, 46, 47, 48, 49, 50, 51, 52, 53, 54, 55, 56, 57, 58, 59, 60, 61, 62, 63, 64, 65, 66, 67, 68, 69, 5, 3, 2, 70, 71, 72, 73, 74, 92, 93, 94, 95, 96, 97, 98, 99, 100, 101, 102, 103, 104, 105, 106, 107, 108, 109, 110, 111, 112, 113, 114, 115, 116, 117, 118, 119, 120, 121, 122, 123, 124, 125, 126, 127, 128, 129, 130, 131, 132, 133, 134, 135, 136, 137, 138, 139, 140, 141, 142, 143, 144, 145, 146, 147, 148, 149, 150, 151, 152] rfl (by decide +kernel)
set_option maxRecDepth 20000 in
theorem gX8_step_X8_runStep : GoodIn wsX8_step (wsV RX8 219 RX8 yX8_runStep wsX8_runStep) := goodIn_app (goodIn_of _ (by decide +kernel)) ggX8_step_X8_runStep
set_option maxRecDepth 20000 in
theorem ggX8_step_X8_lookStep : GoodIn wsX8_step wsX8_lookStep := goodIn_r _ [78, 11, 1, 79, 4, 69, 74, 32, 33, 34, 35, 36, 38, 37, 80, 56, 54, 81, 82, 2, 3, 49, 50, 51, 9, 52, 53, 40, 55, 57, 58, 59, 60, 61, 62, 63, 64, 83, 84, 85, 86, 87, 88, 89, 90, 91, 19, 43, 18, 42, 29, 30, 92, 93, 94, 95, 96, 97, 98, 99, 100, 101, 102, 103, 104, 105, 106, 107, 108, 109, 110, 111, 112, 113, 114, 115, 116, 117, 118, 119, 120, 121, 122, 123, 124, 125, 126, 127, 128, 129, 130, 131, 132, 133, 134, 135, 136, 137, 138, 139, 140, 141, 142, 143, 144, 145, 146, 147, 148, 149, 150, 151, 152] rfl (by decide +kernel)
set_option maxRecDepth 20000 in
theorem gX8_step_X8_lookStep : GoodIn wsX8_step (wsV RX8 222 RX8 yX8_lookStep wsX8_lookStep) := goodIn_app (goodIn_of _ (by decide +kernel)) ggX8_step_X8_lookStep
set_option maxRecDepth 20000 in
theorem ggX8_step_X8_toLook : GoodIn wsX8_step wsX8_toLook := goodIn_r _ [73, 1, 11, 74, 69, 92, 93, 94, 95, 96, 97, 98, 99, 100, 101, 102, 103, 104, 105, 106, 107, 108, 109, 110, 111, 112, 113, 114, 115, 116, 117, 118, 119, 120, 121, 122, 123, 124, 125, 126, 127, 128, 129, 130, 131, 132, 133, 134, 135, 136, 137, 138, 139, 140, 141, 142, 143, 144, 145, 146, 147, 148, 149, 150, 151, 152] rfl (by decide +kernel)
set_option maxRecDepth 20000 in
theorem gX8_step_X8_toLook : GoodIn wsX8_step (wsV RX8 225 RX8 yX8_toLook wsX8_toLook) := goodIn_app (goodIn_of _ (by decide +kernel)) ggX8_step_X8_toLook
set_option maxRecDepth 20000 in
theorem ggX8_step_X8_toRun : GoodIn wsX8_step wsX8_toRun := goodIn_r _ [86, 4, 1, 11, 87, 88, 89, 9, 90, 91, 19, 43, 18, 32, 42, 29, 30, 92, 93, 94, 95, 96, 97, 98, 99, 100, 101, 102, 103, 104, 105, 106, 107, 108, 109, 110, 111, 112, 113, 114, 115, 116, 117, 118, 119, 120, 121, 122, 123, 124, 125, 126, 127, 128, 129, 130, 131, 132, 133, 134, 135, 136, 137, 138, 139, 140, 141, 142, 143, 144, 145, 146, 147, 148, 149, 150, 151, 152] rfl (by decide +kernel)
set_option maxRecDepth 20000 in
theorem gX8_step_X8_toRun : GoodIn wsX8_step (wsV RX8 228 RX8 yX8_toRun wsX8_toRun) := goodIn_app (goodIn_of _ (by decide +kernel)) ggX8_step_X8_toRun
set_option maxRecDepth 20000 in
theorem ggX8_toRun_X8_begin : GoodIn wsX8_toRun wsX8_begin := goodIn_r _ [8, 9, 10, 11, 12, 13, 14, 15, 16, 17, 18, 19, 20, 21, 22, 23, 24, 25, 26, 27, 28, 29, 30, 31, 32, 33, 34, 35, 36, 37, 38, 39, 40, 41, 42, 43, 44, 45, 46, 47, 48, 49, 50, 51, 52, 53, 54, 55, 56, 57, 58, 59, 60, 61, 62, 63, 64, 65, 66, 67, 68, 69, 70, 71, 72, 73, 74, 75, 76, 77] rfl (by decide +kernel)
set_option maxRecDepth 20000 in
theorem gX8_toRun_X8_begin : GoodIn wsX8_toRun (wsV RX8 231 RX8 yX8_begin wsX8_begin) := goodIn_app (goodIn_of _ (by decide +kernel)) ggX8_toRun_X8_begin
set_option maxRecDepth 20000 in
theorem ggX8_runStep_X8_isOver : GoodIn wsX8_runStep wsX8_isOver := goodIn_r _ [10, 11, 12, 13, 71, 72, 73, 74, 75, 76, 77, 78, 79, 80, 81, 82, 83, 84, 85, 86, 87, 88, 89, 90, 91, 92, 93, 94, 95, 96, 97, 98, 99, 100, 101, 102, 103, 104, 105, 106, 107, 108, 109, 110, 111, 112, 113, 114, 115, 116, 117, 118, 119, 120, 121, 122, 123, 124, 125, 126, 127, 128, 129, 130, 131] rfl (by decide +kernel)
set_option maxRecDepth 20000 in
theorem gX8_runStep_X8_isOver : GoodIn wsX8_runStep (wsV RX8 234 RX8 yX8_isOver wsX8_isOver) := goodIn_app (goodIn_of _ (by decide +kernel)) ggX8_runStep_X8_isOver
set_option maxRecDepth 20000 in
theorem ggX8_runStep_X8_doAct : GoodIn wsX8_runStep wsX8_doAct := goodIn_r _ [17, 12, 18, 19, 20, 21, 22, 23, 24, 25, 26, 27, 28, 29, 30, 31, 32, 33, 34, 35, 11, 36, 37, 38, 39, 9, 40, 41, 42, 43, 44, 45, 46, 47, 48, 49, 50, 71, 72, 73, 74, 75, 76, 77, 78, 79, 80, 81, 82, 83, 84, 85, 86, 87, 88, 89, 90, 91, 92, 93, 94, 95, 96, 97, 98, 99, 100, 101, 102, 103, 104, 105, 106, 107, 108, 109, 110, 111, 112, 113, 114, 115, 116, 117, 118, 119, 120, 121, 122, 123, 124, 125, 126, 127, 128, 129, 130, 131] rfl (by decide +kernel)
set_option maxRecDepth 20000 in
theorem gX8_runStep_X8_doAct : GoodIn wsX8_runStep (wsV RX8 237 RX8 yX8_doAct wsX8_doAct) := goodIn_app (goodIn_of _ (by decide +kernel)) ggX8_runStep_X8_doAct
set_option maxRecDepth 20000 in
theorem ggX8_runStep_X8_conflict0 : GoodIn wsX8_runStep wsX8_conflict0 := goodIn_r _ [54, 55, 56, 57, 71, 72, 73, 74, 75, 76, 77, 78, 79, 80, 81, 82, 83, 84, 85, 86, 87, 88, 89, 90, 91, 92, 93, 94, 95, 96, 97, 98, 99, 100, 101, 102, 103, 104, 105, 106, 107, 108, 109, 110, 111, 112, 113, 114, 115, 116, 117, 118, 119, 120, 121, 122, 123, 124, 125, 126, 127, 128, 129, 130, 131] rfl (by decide +kernel)
set_option maxRecDepth 20000 in
theorem gX8_runStep_X8_conflict0 : GoodIn wsX8_runStep (wsV RX8 241 RX8 yX8_conflict0 wsX8_conflict0) := goodIn_app (goodIn_of _ (by decide +kernel)) ggX8_runStep_X8_conflict0
set_option maxRecDepth 20000 in
theorem ggX8_runStep_X8_ends : GoodIn wsX8_runStep wsX8_ends := goodIn_r _ [61, 23, 11, 47, 49, 50, 24, 48, 62, 2, 63, 3, 64, 65, 66, 67, 68, 9, 69, 4, 1, 70, 71, 72, 73, 74, 75, 76, 77, 78, 79, 80, 81, 82, 83, 84, 85, 86, 87, 88, 89, 90, 91, 92, 93, 94, 95, 96, 97, 98, 99, 100, 101, 102, 103, 104, 105, 106, 107, 108, 109, 110, 111, 112, 113, 114, 115, 116, 117, 118, 119, 120, 121, 122, 123, 124, 125, 126, 127, 128, 129, 130, 131] rfl (by decide +kernel)
set_option maxRecDepth 20000 in
theorem gX8_runStep_X8_ends : GoodIn wsX8_runStep (wsV RX8 244 RX8 yX8_ends wsX8_ends) := goodIn_app (goodIn_of _ (by decide +kernel)) ggX8_runStep_X8_ends
set_option maxRecDepth 20000 in
theorem ggX8_ends_X8_toLook : GoodIn wsX8_ends wsX8_toLook := goodIn_r _ [18, 19, 20, 21, 8, 22, 23, 24, 25, 26, 27, 28, 29, 30, 31, 32, 33, 34, 35, 36, 37, 38, 39, 40, 41, 42, 43, 44, 45, 46, 47, 48, 49, 50, 51, 52, 53, 54, 55, 56, 57, 58, 59, 60, 61, 62, 63, 64, 65, 66, 67, 68, 69, 70, 71, 72, 73, 74, 75, 76, 77, 78, 79, 80, 81, 82] rfl (by decide +kernel)
set_option maxRecDepth 20000 in
theorem gX8_ends_X8_toLook : GoodIn wsX8_ends (wsV RX8 225 RX8 yX8_toLook wsX8_toLook) := goodIn_app (goodIn_of _ (by decide +kernel)) ggX8_ends_X8_toLook
set_option maxRecDepth 20000 in
theorem ggX8_lookStep_X8_see : GoodIn wsX8_lookStep wsX8_see := goodIn_r _ [25, 10, 12, 9, 26, 27, 16, 28, 15, 29, 52, 53, 54, 55, 56, 57, 58, 59, 60, 61, 62, 63, 64, 65, 66, 67, 68, 69, 70, 71, 72, 73, 74, 75, 76, 77, 78, 79, 80, 81, 82, 83, 84, 85, 86, 87, 88, 89, 90, 91, 92, 93, 94, 95, 96, 97, 98, 99, 100, 101, 102, 103, 104, 105, 106, 107, 108, 109, 110, 111, 112] rfl (by decide +kernel)
set_option maxRecDepth 20000 in
theorem gX8_lookStep_X8_see : GoodIn wsX8_lookStep (wsV RX8 170 RX8 yX8_see wsX8_see) := goodIn_app (goodIn_of _ (by decide +kernel)) ggX8_lookStep_X8_see
set_option maxRecDepth 20000 in
theorem ggX8_lookStep_X8_conflict0 : GoodIn wsX8_lookStep wsX8_conflict0 := goodIn_r _ [33, 34, 35, 36, 52, 53, 54, 55, 56, 57, 58, 59, 60, 61, 62, 63, 64, 65, 66, 67, 68, 69, 70, 71, 72, 73, 74, 75, 76, 77, 78, 79, 80, 81, 82, 83, 84, 85, 86, 87, 88, 89, 90, 91, 92, 93, 94, 95, 96, 97, 98, 99, 100, 101, 102, 103, 104, 105, 106, 107, 108, 109, 110, 111, 112] rfl (by decide +kernel)
set_option maxRecDepth 20000 in
theorem gX8_lookStep_X8_conflict0 : GoodIn wsX8_lookStep (wsV RX8 241 RX8 yX8_conflict0 wsX8_conflict0) := goodIn_app (goodIn_of _ (by decide +kernel)) ggX8_lookStep_X8_conflict0
set_option maxRecDepth 20000 in
theorem ggX8_lookStep_X8_toRun : GoodIn wsX8_lookStep wsX8_toRun := goodIn_r _ [40, 4, 2, 1, 41, 42, 43, 24, 44, 45, 46, 47, 48, 7, 49, 50, 51, 52, 53, 54, 55, 56, 57, 58, 59, 60, 61, 62, 63, 64, 65, 66, 67, 68, 69, 70, 71, 72, 73, 74, 75, 76, 77, 78, 79, 80, 81, 82, 83, 84, 85, 86, 87, 88, 89, 90, 91, 92, 93, 94, 95, 96, 97, 98, 99, 100, 101, 102, 103, 104, 105, 106, 107, 108, 109, 110, 111, 112] rfl (by decide +kernel)
set_option maxRecDepth 20000 in
theorem gX8_lookStep_X8_toRun : GoodIn wsX8_lookStep (wsV RX8 228 RX8 yX8_toRun wsX8_toRun) := goodIn_app (goodIn_of _ (by decide +kernel)) ggX8_lookStep_X8_toRun
set_option maxRecDepth 20000 in
theorem ggX8_allInOrder_X8_begin : GoodIn wsX8_allInOrder wsX8_begin := goodIn_r _ [13, 14, 15, 16, 5, 17, 18, 19, 4, 52, 53, 54, 55, 56, 57, 58, 59, 60, 61, 62, 63, 64, 65, 66, 67, 68, 69, 70, 71, 72, 73, 74, 75, 76, 77, 78, 79, 80, 81, 82, 83, 84, 85, 86, 87, 88, 89, 90, 91, 92, 93, 94, 95, 96, 97, 98, 99, 100, 101, 102, 103, 104, 105, 106, 107, 108, 109, 110, 111, 112] rfl (by decide +kernel)
set_option maxRecDepth 20000 in
theorem gX8_allInOrder_X8_begin : GoodIn wsX8_allInOrder (wsV RX8 231 RX8 yX8_begin wsX8_begin) := goodIn_app (goodIn_of _ (by decide +kernel)) ggX8_allInOrder_X8_begin
set_option maxRecDepth 20000 in
theorem ggX8_allInOrder_X8_isOver : GoodIn wsX8_allInOrder wsX8_isOver := goodIn_r _ [23, 5, 15, 24, 52, 53, 54, 55, 56, 57, 58, 59, 60, 61, 62, 63, 64, 65, 66, 67, 68, 69, 70, 71, 72, 73, 74, 75, 76, 77, 78, 79, 80, 81, 82, 83, 84, 85, 86, 87, 88, 89, 90, 91, 92, 93, 94, 95, 96, 97, 98, 99, 100, 101, 102, 103, 104, 105, 106, 107, 108, 109, 110, 111, 112] rfl (by decide +kernel)
set_option maxRecDepth 20000 in
theorem gX8_allInOrder_X8_isOver : GoodIn wsX8_allInOrder (wsV RX8 234 RX8 yX8_isOver wsX8_isOver) := goodIn_app (goodIn_of _ (by decide +kernel)) ggX8_allInOrder_X8_isOver
set_option maxRecDepth 20000 in
theorem ggX8_allInOrder_X8_doAct : GoodIn wsX8_allInOrder wsX8_doAct := goodIn_r _ [28, 15, 29, 30, 31, 32, 19, 4, 7, 17, 33, 34, 35, 36, 37, 38, 39, 40, 41, 18, 5, 16, 42, 43, 44, 12, 45, 46, 47, 48, 49, 50, 51, 1, 8, 2, 6, 52, 53, 54, 55, 56, 57, 58, 59, 60, 61, 62, 63, 64, 65, 66, 67, 68, 69, 70, 71, 72, 73, 74, 75, 76, 77, 78, 79, 80, 81, 82, 83, 84, 85, 86, 87, 88, 89, 90, 91, 92, 93, 94, 95, 96, 97, 98, 99, 100, 101, 102, 103, 104, 105, 106, 107, 108, 109, 110, 111, 112] rfl (by decide +kernel)
set_option maxRecDepth 20000 in
theorem gX8_allInOrder_X8_doAct : GoodIn wsX8_allInOrder (wsV RX8 237 RX8 yX8_doAct wsX8_doAct) := goodIn_app (goodIn_of _ (by decide +kernel)) ggX8_allInOrder_X8_doAct
end
section
set_option maxRecDepth 20000 in
theorem ggX8_settle_X8_touches : GoodIn wsX8_settle wsX8_touches := goodIn_r _ [26, 11, 7, 14, 27, 32, 33, 34, 35, 36, 37, 38, 39, 40, 41, 42, 43, 44, 45, 46, 47, 48, 49, 50, 51, 52, 53, 54, 55, 56, 57, 58, 59, 60, 61, 62, 63, 64, 65, 66, 67, 68, 69, 70, 71, 72, 73, 74, 75, 76, 77, 78, 79, 80, 81, 82, 83, 84, 85, 86, 87, 88, 89, 90, 91, 92] rfl (by decide +kernel)
set_option maxRecDepth 20000 in
theorem gX8_settle_X8_touches : GoodIn wsX8_settle (wsV RX8 250 RX8 yX8_touches wsX8_touches) := goodIn_app (goodIn_of _ (by decide +kernel)) ggX8_settle_X8_touches
set_option maxRecDepth 20000 in
theorem ggX8_settle_X8_rootOf : GoodIn wsX8_settle wsX8_rootOf := goodIn_r _ [31, 20, 32, 33, 34, 35, 36, 37, 38, 39, 40, 41, 42, 43, 44, 45, 46, 47, 48, 49, 50, 51, 52, 53, 54, 55, 56, 57, 58, 59, 60, 61, 62, 63, 64, 65, 66, 67, 68, 69, 70, 71, 72, 73, 74, 75, 76, 77, 78, 79, 80, 81, 82, 83, 84, 85, 86, 87, 88, 89, 90, 91, 92] rfl (by decide +kernel)
set_option maxRecDepth 20000 in
theorem gX8_settle_X8_rootOf : GoodIn wsX8_settle (wsV RX8 254 RX8 yX8_rootOf wsX8_rootOf) := goodIn_app (goodIn_of _ (by decide +kernel)) ggX8_settle_X8_rootOf
set_option maxRecDepth 20000 in
theorem ggX8_inOrder_X8_leafOf : GoodIn wsX8_inOrder wsX8_leafOf := goodIn_r _ [14, 15] rfl (by decide +kernel)
set_option maxRecDepth 20000 in
theorem gX8_inOrder_X8_leafOf : GoodIn wsX8_inOrder (va_wsS RX8 166 yX8_leafOf wsX8_leafOf) := goodIn_app (goodIn_of _ (by decide +kernel)) ggX8_inOrder_X8_leafOf
end
