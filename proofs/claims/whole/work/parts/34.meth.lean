def tX6_takeTask : List (Nat × (Instr × Nat)) := [(0, (.aload_n 0, 1)), (1, (.getfield 77, 3)), (4, (.aload_n 0, 1)), (5, (.getfield 74, 3)), (8, (.if_icmp .ge 37, 3)), (11, (.aload_n 0, 1)), (12, (.getfield 77, 3)), (15, (.istore_n 2, 1)), (16, (.aload_n 0, 1)), (17, (.dup, 1)), (18, (.getfield 77, 3)), (21, (.iconst 1, 1)), (22, (.iadd, 1)), (23, (.putfield 77, 3)), (26, (.aload_n 0, 1)), (27, (.getfield 25, 3)), (30, (.iload_n 2, 1)), (31, (.iaload, 1)), (32, (.iconst 2, 1)), (33, (.if_icmp .ne 9, 3)), (36, (.aload_n 0, 1)), (37, (.iload_n 1, 1)), (38, (.iload_n 2, 1)), (39, (.invokevirtual 116, 3)), (42, (.goto 47, 3)), (45, (.aload_n 0, 1)), (46, (.getfield 74, 3)), (49, (.aload_n 0, 1)), (50, (.getfield 12, 3)), (53, (.getfield 103, 3)), (56, (.if_icmp .ge 33, 3)), (59, (.aload_n 0, 1)), (60, (.getfield 74, 3)), (63, (.istore_n 2, 1)), (64, (.aload_n 0, 1)), (65, (.dup, 1)), (66, (.getfield 74, 3)), (69, (.iconst 1, 1)), (70, (.iadd, 1)), (71, (.putfield 74, 3)), (74, (.aload_n 0, 1)), (75, (.getfield 25, 3)), (78, (.iload_n 2, 1)), (79, (.iaload, 1)), (80, (.ifCond .ne 9, 3)), (83, (.aload_n 0, 1)), (84, (.iload_n 1, 1)), (85, (.iload_n 2, 1)), (86, (.invokevirtual 120, 3)), (89, (.return_, 1))]
def fX6_takeTask : List (Nat × (Nat × Nat)) := [(77, (5, 10)), (74, (5, 9)), (25, (5, 11)), (12, (5, 0)), (103, (1, 2))]
def qX6_takeTask : List (Nat × (Int32 ⊕ Int64)) := []
noncomputable def lX6_takeTask : List (Nat × (Nat × (Option Nat × pFN))) := [(116, (3, (some 5, kX6_giveLook))), (120, (3, (some 5, kX6_giveRun)))]
noncomputable def kX6_takeTask : pFN := pm_met shX (some 5) tX6_takeTask fX6_takeTask qX6_takeTask lX6_takeTask 3 0
def mX6_takeTask : Room := { frames := 3, cells := 0, slots := 0, locals := 66 }
set_option maxRecDepth 100000 in
theorem tX6_takeTask_ok : ∀ q ∈ tX6_takeTask, decode cX6_takeTask q.1 = .ok q.2 ∧ pm_tok q.1 q.2.1 q.2.2 = true := by decide +kernel
set_option maxRecDepth 100000 in
theorem fX6_takeTask_ok : ∀ q ∈ fX6_takeTask, pm_Fok wsX6_takeTask yX6_takeTask.cls q.1 q.2.1 q.2.2 := List.forall_mem_cons.mpr ⟨⟨(RX6, TX6, 17), rfl, by decide, by decide +kernel, fun w h => List.mem_cons_of_mem _ (List.mem_append_left _ (List.mem_append_left _ (List.mem_append_right _ h)))⟩, List.forall_mem_cons.mpr ⟨⟨(RX6, TX6, 17), rfl, by decide, by decide +kernel, fun w h => List.mem_cons_of_mem _ (List.mem_append_left _ (List.mem_append_left _ (List.mem_append_right _ h)))⟩, List.forall_mem_cons.mpr ⟨⟨(RX6, TX6, 17), rfl, by decide, by decide +kernel, fun w h => List.mem_cons_of_mem _ (List.mem_append_left _ (List.mem_append_left _ (List.mem_append_right _ h)))⟩, List.forall_mem_cons.mpr ⟨⟨(RX6, TX6, 17), rfl, by decide, by decide +kernel, fun w h => List.mem_cons_of_mem _ (List.mem_append_left _ (List.mem_append_left _ (List.mem_append_right _ h)))⟩, List.forall_mem_cons.mpr ⟨⟨(RX1, TX1, 3), rfl, by decide, by decide +kernel, fun w h => List.mem_cons_of_mem _ (List.mem_append_left _ (List.mem_append_right _ h))⟩, fun _ h => absurd h List.not_mem_nil⟩⟩⟩⟩⟩
set_option maxRecDepth 100000 in
theorem qX6_takeTask_ok : ∀ q ∈ qX6_takeTask, pm_Kok wsX6_takeTask yX6_takeTask.cls q.1 q.2 := fun _ h => absurd h List.not_mem_nil
set_option maxRecDepth 100000 in
theorem conX6_takeTask (l : Launch) : pm_Con l yX6_takeTask wsX6_takeTask mX6_takeTask shX 288 kX6_takeTask := pm_met_con (cc := cX6_takeTask) (by decide +kernel) rfl shX_N tX6_takeTask_ok fX6_takeTask_ok qX6_takeTask_ok (List.forall_mem_cons.mpr ⟨⟨yX6_giveLook, wsX6_giveLook, _, mX6_giveLook, cX6_giveLook, 3, pm_rt 0, (RX6, TX6, 17), conX6_giveLook l, pm_met_recv, rfl, gX6_takeTask_X6_giveLook, rfl, rfl, rfl, by decide +kernel, by decide⟩, List.forall_mem_cons.mpr ⟨⟨yX6_giveRun, wsX6_giveRun, _, mX6_giveRun, cX6_giveRun, 3, pm_rt 0, (RX6, TX6, 17), conX6_giveRun l, pm_met_recv, rfl, gX6_takeTask_X6_giveRun, rfl, rfl, rfl, by decide +kernel, by decide⟩, fun _ h => absurd h List.not_mem_nil⟩⟩)

def tX6_step : List (Nat × (Instr × Nat)) := [(0, (.aload_n 0, 1)), (1, (.getfield 35, 3)), (4, (.iload_n 1, 1)), (5, (.iaload, 1)), (6, (.lookupswitch 43 #[(1, 26), (2, 35)], 26)), (32, (.aload_n 0, 1)), (33, (.iload_n 1, 1)), (34, (.aload_n 2, 1)), (35, (.invokevirtual 106, 3)), (38, (.goto 16, 3)), (41, (.aload_n 0, 1)), (42, (.iload_n 1, 1)), (43, (.invokevirtual 109, 3)), (46, (.goto 8, 3)), (49, (.aload_n 0, 1)), (50, (.iload_n 1, 1)), (51, (.invokevirtual 113, 3)), (54, (.return_, 1))]
def fX6_step : List (Nat × (Nat × Nat)) := [(35, (5, 14))]
def qX6_step : List (Nat × (Int32 ⊕ Int64)) := []
noncomputable def lX6_step : List (Nat × (Nat × (Option Nat × pFN))) := [(106, (3, (some 5, kX6_goOn))), (109, (2, (some 5, kX6_look))), (113, (2, (some 5, kX6_takeTask)))]
noncomputable def kX6_step : pFN := pm_met shX (some 5) tX6_step fX6_step qX6_step lX6_step 3 0
def mX6_step : Room := { frames := 4, cells := 0, slots := 0, locals := 103 }
set_option maxRecDepth 100000 in
theorem tX6_step_ok : ∀ q ∈ tX6_step, decode cX6_step q.1 = .ok q.2 ∧ pm_tok q.1 q.2.1 q.2.2 = true := by decide +kernel
set_option maxRecDepth 100000 in
theorem fX6_step_ok : ∀ q ∈ fX6_step, pm_Fok wsX6_step yX6_step.cls q.1 q.2.1 q.2.2 := List.forall_mem_cons.mpr ⟨⟨(RX6, TX6, 17), rfl, by decide, by decide +kernel, fun w h => List.mem_cons_of_mem _ (List.mem_append_left _ (List.mem_append_left _ (List.mem_append_left _ (List.mem_append_left _ (List.mem_append_left _ (List.mem_append_right _ h))))))⟩, fun _ h => absurd h List.not_mem_nil⟩
set_option maxRecDepth 100000 in
theorem qX6_step_ok : ∀ q ∈ qX6_step, pm_Kok wsX6_step yX6_step.cls q.1 q.2 := fun _ h => absurd h List.not_mem_nil
set_option maxRecDepth 100000 in
theorem conX6_step (l : Launch) : pm_Con l yX6_step wsX6_step mX6_step shX 288 kX6_step := pm_met_con (cc := cX6_step) (by decide +kernel) rfl shX_N tX6_step_ok fX6_step_ok qX6_step_ok (List.forall_mem_cons.mpr ⟨⟨yX6_goOn, wsX6_goOn, _, mX6_goOn, cX6_goOn, 6, pm_rt 0, (RX6, TX6, 17), conX6_goOn l, pm_met_recv, rfl, gX6_step_X6_goOn, rfl, rfl, rfl, by decide +kernel, by decide⟩, List.forall_mem_cons.mpr ⟨⟨yX6_look, wsX6_look, _, mX6_look, cX6_look, 4, pm_rt 0, (RX6, TX6, 17), conX6_look l, pm_met_recv, rfl, gX6_step_X6_look, rfl, rfl, rfl, by decide +kernel, by decide⟩, List.forall_mem_cons.mpr ⟨⟨yX6_takeTask, wsX6_takeTask, _, mX6_takeTask, cX6_takeTask, 3, pm_rt 0, (RX6, TX6, 17), conX6_takeTask l, pm_met_recv, rfl, gX6_step_X6_takeTask, rfl, rfl, rfl, by decide +kernel, by decide⟩, fun _ h => absurd h List.not_mem_nil⟩⟩⟩)

def tX6_work : List (Nat × (Instr × Nat)) := [(0, (.iload_n 2, 1)), (1, (.istore_n 3, 1)), (2, (.aload_n 0, 1)), (3, (.getfield 52, 3)), (6, (.ldc 86, 2)), (8, (.if_icmp .ge 60, 3)), (11, (.aload_n 0, 1)), (12, (.getfield 68, 3)), (15, (.ifCond .le 53, 3)), (18, (.aload_n 0, 1)), (19, (.getfield 64, 3)), (22, (.ifCond .ne 46, 3)), (25, (.aload_n 0, 1)), (26, (.invokevirtual 87, 3)), (29, (.ifCond .ne 39, 3)), (32, (.aload_n 0, 1)), (33, (.dup, 1)), (34, (.getfield 52, 3)), (37, (.iconst 1, 1)), (38, (.iadd, 1)), (39, (.putfield 52, 3)), (42, (.iload_n 3, 1)), (43, (.ldc 91, 2)), (45, (.imul, 1)), (46, (.sipush 12345, 3)), (49, (.iadd, 1)), (50, (.istore_n 3, 1)), (51, (.aload_n 0, 1)), (52, (.iload_n 3, 1)), (53, (.bipush 16, 2)), (55, (.iushr, 1)), (56, (.aload_n 0, 1)), (57, (.getfield 68, 3)), (60, (.irem, 1)), (61, (.aload_n 1, 1)), (62, (.invokevirtual 92, 3)), (65, (.goto (-63), 3)), (68, (.aload_n 0, 1)), (69, (.getfield 64, 3)), (72, (.ifCond .eq 11, 3)), (75, (.aload_n 0, 1)), (76, (.getfield 12, 3)), (79, (.aload_n 1, 1)), (80, (.invokevirtual 96, 3)), (83, (.aload_n 0, 1)), (84, (.getfield 12, 3)), (87, (.invokevirtual 100, 3)), (90, (.return_, 1))]
def fX6_work : List (Nat × (Nat × Nat)) := [(52, (5, 2)), (68, (5, 7)), (64, (5, 6)), (12, (5, 0))]
def qX6_work : List (Nat × (Int32 ⊕ Int64)) := [(86, .inl (1000000)), (91, .inl (1103515245))]
noncomputable def lX6_work : List (Nat × (Nat × (Option Nat × pFN))) := [(87, (1, (some 5, kX6_isDone))), (92, (3, (some 5, kX6_step))), (96, (2, (some 1, kX1_runOneByOne))), (100, (1, (some 1, kX1_formGroups)))]
noncomputable def kX6_work : pFN := pm_met shX (some 5) tX6_work fX6_work qX6_work lX6_work 4 0
def mX6_work : Room := { frames := 5, cells := 0, slots := 0, locals := 125 }
set_option maxRecDepth 100000 in
theorem tX6_work_ok : ∀ q ∈ tX6_work, decode cX6_work q.1 = .ok q.2 ∧ pm_tok q.1 q.2.1 q.2.2 = true := by decide +kernel
set_option maxRecDepth 100000 in
theorem fX6_work_ok : ∀ q ∈ fX6_work, pm_Fok wsX6_work yX6_work.cls q.1 q.2.1 q.2.2 := List.forall_mem_cons.mpr ⟨⟨(RX6, TX6, 17), rfl, by decide, by decide +kernel, fun w h => List.mem_cons_of_mem _ (List.mem_append_left _ (List.mem_append_left _ (List.mem_append_left _ (List.mem_append_left _ (List.mem_append_left _ (List.mem_append_right _ h))))))⟩, List.forall_mem_cons.mpr ⟨⟨(RX6, TX6, 17), rfl, by decide, by decide +kernel, fun w h => List.mem_cons_of_mem _ (List.mem_append_left _ (List.mem_append_left _ (List.mem_append_left _ (List.mem_append_left _ (List.mem_append_left _ (List.mem_append_right _ h))))))⟩, List.forall_mem_cons.mpr ⟨⟨(RX6, TX6, 17), rfl, by decide, by decide +kernel, fun w h => List.mem_cons_of_mem _ (List.mem_append_left _ (List.mem_append_left _ (List.mem_append_left _ (List.mem_append_left _ (List.mem_append_left _ (List.mem_append_right _ h))))))⟩, List.forall_mem_cons.mpr ⟨⟨(RX6, TX6, 17), rfl, by decide, by decide +kernel, fun w h => List.mem_cons_of_mem _ (List.mem_append_left _ (List.mem_append_left _ (List.mem_append_left _ (List.mem_append_left _ (List.mem_append_left _ (List.mem_append_right _ h))))))⟩, fun _ h => absurd h List.not_mem_nil⟩⟩⟩⟩
set_option maxRecDepth 100000 in
theorem qX6_work_ok : ∀ q ∈ qX6_work, pm_Kok wsX6_work yX6_work.cls q.1 q.2 := List.forall_mem_cons.mpr ⟨(by decide +kernel : _ ∈ wsX6_work), List.forall_mem_cons.mpr ⟨(by decide +kernel : _ ∈ wsX6_work), fun _ h => absurd h List.not_mem_nil⟩⟩
set_option maxRecDepth 100000 in
theorem conX6_work (l : Launch) : pm_Con l yX6_work wsX6_work mX6_work shX 288 kX6_work := pm_met_con (cc := cX6_work) (by decide +kernel) rfl shX_N tX6_work_ok fX6_work_ok qX6_work_ok (List.forall_mem_cons.mpr ⟨⟨yX6_isDone, wsX6_isDone, _, mX6_isDone, cX6_isDone, 2, pm_rt 2, (RX6, TX6, 17), conX6_isDone l, pm_met_recv, rfl, gX6_work_X6_isDone, rfl, rfl, rfl, by decide +kernel, by decide⟩, List.forall_mem_cons.mpr ⟨⟨yX6_step, wsX6_step, _, mX6_step, cX6_step, 3, pm_rt 0, (RX6, TX6, 17), conX6_step l, pm_met_recv, rfl, gX6_work_X6_step, rfl, rfl, rfl, by decide +kernel, by decide⟩, List.forall_mem_cons.mpr ⟨⟨yX1_runOneByOne, wsX1_runOneByOne, _, mX1_runOneByOne, cX1_runOneByOne, 5, pm_rt 0, (RX1, TX1, 3), conX1_runOneByOne l, pm_met_recv, rfl, gX6_work_X1_runOneByOne, rfl, rfl, rfl, by decide +kernel, by decide⟩, List.forall_mem_cons.mpr ⟨⟨yX1_formGroups, wsX1_formGroups, _, mX1_formGroups, cX1_formGroups, 2, pm_rt 0, (RX1, TX1, 3), conX1_formGroups l, pm_met_recv, rfl, gX6_work_X1_formGroups, rfl, rfl, rfl, by decide +kernel, by decide⟩, fun _ h => absurd h List.not_mem_nil⟩⟩⟩⟩)

def tX6_tell : List (Nat × (Instr × Nat)) := [(0, (.iload_n 1, 1)), (1, (.tableswitch 104 0 7 #[47, 52, 65, 70, 75, 80, 88, 96], 47)), (48, (.aload_n 0, 1)), (49, (.getfield 52, 3)), (52, (.ireturn, 1)), (53, (.aload_n 0, 1)), (54, (.getfield 64, 3)), (57, (.ifCond .eq 7, 3)), (60, (.iconst 1, 1)), (61, (.goto 4, 3)), (64, (.iconst 0, 1)), (65, (.ireturn, 1)), (66, (.aload_n 0, 1)), (67, (.getfield 55, 3)), (70, (.ireturn, 1)), (71, (.aload_n 0, 1)), (72, (.getfield 58, 3)), (75, (.ireturn, 1)), (76, (.aload_n 0, 1)), (77, (.getfield 61, 3)), (80, (.ireturn, 1)), (81, (.aload_n 0, 1)), (82, (.getfield 12, 3)), (85, (.invokevirtual 182, 3)), (88, (.ireturn, 1)), (89, (.aload_n 0, 1)), (90, (.getfield 12, 3)), (93, (.invokevirtual 186, 3)), (96, (.ireturn, 1)), (97, (.aload_n 0, 1)), (98, (.getfield 12, 3)), (101, (.getfield 103, 3)), (104, (.ireturn, 1)), (105, (.iconst (-1), 1)), (106, (.ireturn, 1))]
def fX6_tell : List (Nat × (Nat × Nat)) := [(52, (5, 2)), (64, (5, 6)), (55, (5, 3)), (58, (5, 4)), (61, (5, 5)), (12, (5, 0)), (103, (1, 2))]
def qX6_tell : List (Nat × (Int32 ⊕ Int64)) := []
noncomputable def lX6_tell : List (Nat × (Nat × (Option Nat × pFN))) := [(182, (1, (some 1, kX1_countActs))), (186, (1, (some 1, kX1_countGroups)))]
noncomputable def kX6_tell : pFN := pm_met shX (some 5) tX6_tell fX6_tell qX6_tell lX6_tell 2 1
def mX6_tell : Room := { frames := 1, cells := 0, slots := 0, locals := 22 }
set_option maxRecDepth 100000 in
theorem tX6_tell_ok : ∀ q ∈ tX6_tell, decode cX6_tell q.1 = .ok q.2 ∧ pm_tok q.1 q.2.1 q.2.2 = true := by decide +kernel
set_option maxRecDepth 100000 in
theorem fX6_tell_ok : ∀ q ∈ fX6_tell, pm_Fok wsX6_tell yX6_tell.cls q.1 q.2.1 q.2.2 := List.forall_mem_cons.mpr ⟨⟨(RX6, TX6, 17), rfl, by decide, by decide +kernel, fun w h => List.mem_cons_of_mem _ (List.mem_append_left _ (List.mem_append_left _ (List.mem_append_right _ h)))⟩, List.forall_mem_cons.mpr ⟨⟨(RX6, TX6, 17), rfl, by decide, by decide +kernel, fun w h => List.mem_cons_of_mem _ (List.mem_append_left _ (List.mem_append_left _ (List.mem_append_right _ h)))⟩, List.forall_mem_cons.mpr ⟨⟨(RX6, TX6, 17), rfl, by decide, by decide +kernel, fun w h => List.mem_cons_of_mem _ (List.mem_append_left _ (List.mem_append_left _ (List.mem_append_right _ h)))⟩, List.forall_mem_cons.mpr ⟨⟨(RX6, TX6, 17), rfl, by decide, by decide +kernel, fun w h => List.mem_cons_of_mem _ (List.mem_append_left _ (List.mem_append_left _ (List.mem_append_right _ h)))⟩, List.forall_mem_cons.mpr ⟨⟨(RX6, TX6, 17), rfl, by decide, by decide +kernel, fun w h => List.mem_cons_of_mem _ (List.mem_append_left _ (List.mem_append_left _ (List.mem_append_right _ h)))⟩, List.forall_mem_cons.mpr ⟨⟨(RX6, TX6, 17), rfl, by decide, by decide +kernel, fun w h => List.mem_cons_of_mem _ (List.mem_append_left _ (List.mem_append_left _ (List.mem_append_right _ h)))⟩, List.forall_mem_cons.mpr ⟨⟨(RX1, TX1, 3), rfl, by decide, by decide +kernel, fun w h => List.mem_cons_of_mem _ (List.mem_append_left _ (List.mem_append_right _ h))⟩, fun _ h => absurd h List.not_mem_nil⟩⟩⟩⟩⟩⟩⟩
set_option maxRecDepth 100000 in
theorem qX6_tell_ok : ∀ q ∈ qX6_tell, pm_Kok wsX6_tell yX6_tell.cls q.1 q.2 := fun _ h => absurd h List.not_mem_nil
set_option maxRecDepth 100000 in
theorem conX6_tell (l : Launch) : pm_Con l yX6_tell wsX6_tell mX6_tell shX 288 kX6_tell := pm_met_con (cc := cX6_tell) (by decide +kernel) rfl shX_N tX6_tell_ok fX6_tell_ok qX6_tell_ok (List.forall_mem_cons.mpr ⟨⟨yX1_countActs, wsX1_countActs, _, mX1_countActs, cX1_countActs, 3, pm_rt 1, (RX1, TX1, 3), conX1_countActs l, pm_met_recv, rfl, gX6_tell_X1_countActs, rfl, rfl, rfl, by decide +kernel, by decide⟩, List.forall_mem_cons.mpr ⟨⟨yX1_countGroups, wsX1_countGroups, _, mX1_countGroups, cX1_countGroups, 3, pm_rt 1, (RX1, TX1, 3), conX1_countGroups l, pm_met_recv, rfl, gX6_tell_X1_countGroups, rfl, rfl, rfl, by decide +kernel, by decide⟩, fun _ h => absurd h List.not_mem_nil⟩⟩)

def tX7_call : List (Nat × (Instr × Nat)) := [(0, (.aload_n 0, 1)), (1, (.getfield 16, 3)), (4, (.invokevirtual 38, 3)), (7, (.ireturn, 1))]
def fX7_call : List (Nat × (Nat × Nat)) := [(16, (6, 1))]
def qX7_call : List (Nat × (Int32 ⊕ Int64)) := []
noncomputable def lX7_call : List (Nat × (Nat × (Option Nat × pFN))) := [(38, (1, (some 2, kX2_addCall)))]
noncomputable def kX7_call : pFN := pm_met shX (some 6) tX7_call fX7_call qX7_call lX7_call 1 1
def mX7_call : Room := { frames := 1, cells := 0, slots := 0, locals := 20 }
set_option maxRecDepth 100000 in
theorem tX7_call_ok : ∀ q ∈ tX7_call, decode cX7_call q.1 = .ok q.2 ∧ pm_tok q.1 q.2.1 q.2.2 = true := by decide +kernel
set_option maxRecDepth 100000 in
theorem fX7_call_ok : ∀ q ∈ fX7_call, pm_Fok wsX7_call yX7_call.cls q.1 q.2.1 q.2.2 := List.forall_mem_cons.mpr ⟨⟨(RX7, TX7, 5), rfl, by decide, by decide +kernel, fun w h => List.mem_cons_of_mem _ (List.mem_append_left _ (List.mem_append_right _ h))⟩, fun _ h => absurd h List.not_mem_nil⟩
set_option maxRecDepth 100000 in
theorem qX7_call_ok : ∀ q ∈ qX7_call, pm_Kok wsX7_call yX7_call.cls q.1 q.2 := fun _ h => absurd h List.not_mem_nil
set_option maxRecDepth 100000 in
theorem conX7_call (l : Launch) : pm_Con l yX7_call wsX7_call mX7_call shX 288 kX7_call := pm_met_con (cc := cX7_call) (by decide +kernel) rfl shX_N tX7_call_ok fX7_call_ok qX7_call_ok (List.forall_mem_cons.mpr ⟨⟨yX2_addCall, wsX2_addCall, _, mX2_addCall, cX2_addCall, 1, pm_rt 1, (RX2, TX2, 6), conX2_addCall l, pm_met_recv, rfl, gX7_call_X2_addCall, rfl, rfl, rfl, by decide +kernel, by decide⟩, fun _ h => absurd h List.not_mem_nil⟩)

def tX7_act : List (Nat × (Instr × Nat)) := [(0, (.iload_n 2, 1)), (1, (.iload_n 3, 1)), (2, (.iload 4, 2)), (4, (.lload 5, 2)), (6, (.invokestatic 42, 3)), (9, (.ifCond .ne 5, 3)), (12, (.iconst (-1), 1)), (13, (.ireturn, 1)), (14, (.aload_n 0, 1)), (15, (.getfield 16, 3)), (18, (.iload_n 1, 1)), (19, (.iload_n 2, 1)), (20, (.iload_n 3, 1)), (21, (.iload 4, 2)), (23, (.lload 5, 2)), (25, (.invokevirtual 48, 3)), (28, (.ireturn, 1))]
def fX7_act : List (Nat × (Nat × Nat)) := [(16, (6, 1))]
def qX7_act : List (Nat × (Int32 ⊕ Int64)) := []
noncomputable def lX7_act : List (Nat × (Nat × (Option Nat × pFN))) := [(42, (4, (none, kX4_allows))), (48, (6, (some 2, kX2_addAct)))]
noncomputable def kX7_act : pFN := pm_met shX (some 6) tX7_act fX7_act qX7_act lX7_act 7 1
def mX7_act : Room := { frames := 2, cells := 0, slots := 0, locals := 46 }
set_option maxRecDepth 100000 in
theorem tX7_act_ok : ∀ q ∈ tX7_act, decode cX7_act q.1 = .ok q.2 ∧ pm_tok q.1 q.2.1 q.2.2 = true := by decide +kernel
set_option maxRecDepth 100000 in
theorem fX7_act_ok : ∀ q ∈ fX7_act, pm_Fok wsX7_act yX7_act.cls q.1 q.2.1 q.2.2 := List.forall_mem_cons.mpr ⟨⟨(RX7, TX7, 5), rfl, by decide, by decide +kernel, fun w h => List.mem_cons_of_mem _ (List.mem_append_left _ (List.mem_append_right _ h))⟩, fun _ h => absurd h List.not_mem_nil⟩
set_option maxRecDepth 100000 in
theorem qX7_act_ok : ∀ q ∈ qX7_act, pm_Kok wsX7_act yX7_act.cls q.1 q.2 := fun _ h => absurd h List.not_mem_nil
set_option maxRecDepth 100000 in
theorem conX7_act (l : Launch) : pm_Con l yX7_act wsX7_act mX7_act shX 288 kX7_act := pm_met_con (cc := cX7_act) (by decide +kernel) rfl shX_N tX7_act_ok fX7_act_ok qX7_act_ok (List.forall_mem_cons.mpr ⟨Or.inl ⟨yX4_allows, wsX4_allows, _, mX4_allows, cX4_allows, 5, pm_rt 2, conX4_allows l, gX7_act_X4_allows, rfl, rfl, rfl, by decide +kernel, by decide⟩, List.forall_mem_cons.mpr ⟨⟨yX2_addAct, wsX2_addAct, _, mX2_addAct, cX2_addAct, 8, pm_rt 1, (RX2, TX2, 6), conX2_addAct l, pm_met_recv, rfl, gX7_act_X2_addAct, rfl, rfl, rfl, by decide +kernel, by decide⟩, fun _ h => absurd h List.not_mem_nil⟩⟩)

def tX7_clear : List (Nat × (Instr × Nat)) := [(0, (.aload_n 0, 1)), (1, (.getfield 16, 3)), (4, (.invokevirtual 52, 3)), (7, (.ireturn, 1))]
def fX7_clear : List (Nat × (Nat × Nat)) := [(16, (6, 1))]
def qX7_clear : List (Nat × (Int32 ⊕ Int64)) := []
noncomputable def lX7_clear : List (Nat × (Nat × (Option Nat × pFN))) := [(52, (1, (some 2, kX2_dropCalls)))]
noncomputable def kX7_clear : pFN := pm_met shX (some 6) tX7_clear fX7_clear qX7_clear lX7_clear 1 1
def mX7_clear : Room := { frames := 1, cells := 0, slots := 0, locals := 21 }
set_option maxRecDepth 100000 in
theorem tX7_clear_ok : ∀ q ∈ tX7_clear, decode cX7_clear q.1 = .ok q.2 ∧ pm_tok q.1 q.2.1 q.2.2 = true := by decide +kernel
set_option maxRecDepth 100000 in
theorem fX7_clear_ok : ∀ q ∈ fX7_clear, pm_Fok wsX7_clear yX7_clear.cls q.1 q.2.1 q.2.2 := List.forall_mem_cons.mpr ⟨⟨(RX7, TX7, 5), rfl, by decide, by decide +kernel, fun w h => List.mem_cons_of_mem _ (List.mem_append_left _ (List.mem_append_right _ h))⟩, fun _ h => absurd h List.not_mem_nil⟩
set_option maxRecDepth 100000 in
theorem qX7_clear_ok : ∀ q ∈ qX7_clear, pm_Kok wsX7_clear yX7_clear.cls q.1 q.2 := fun _ h => absurd h List.not_mem_nil
set_option maxRecDepth 100000 in
theorem conX7_clear (l : Launch) : pm_Con l yX7_clear wsX7_clear mX7_clear shX 288 kX7_clear := pm_met_con (cc := cX7_clear) (by decide +kernel) rfl shX_N tX7_clear_ok fX7_clear_ok qX7_clear_ok (List.forall_mem_cons.mpr ⟨⟨yX2_dropCalls, wsX2_dropCalls, _, mX2_dropCalls, cX2_dropCalls, 2, pm_rt 1, (RX2, TX2, 6), conX2_dropCalls l, pm_met_recv, rfl, gX7_clear_X2_dropCalls, rfl, rfl, rfl, by decide +kernel, by decide⟩, fun _ h => absurd h List.not_mem_nil⟩)

def tX7_isLeaf : List (Nat × (Instr × Nat)) := [(0, (.iload_n 0, 1)), (1, (.ifCond .lt 13, 3)), (4, (.iload_n 0, 1)), (5, (.bipush 32, 2)), (7, (.if_icmp .ge 7, 3)), (10, (.iconst 1, 1)), (11, (.goto 4, 3)), (14, (.iconst 0, 1)), (15, (.ireturn, 1))]
def fX7_isLeaf : List (Nat × (Nat × Nat)) := []
def qX7_isLeaf : List (Nat × (Int32 ⊕ Int64)) := []
noncomputable def lX7_isLeaf : List (Nat × (Nat × (Option Nat × pFN))) := []
noncomputable def kX7_isLeaf : pFN := pm_met shX (none) tX7_isLeaf fX7_isLeaf qX7_isLeaf lX7_isLeaf 1 2
def mX7_isLeaf : Room := { frames := 0, cells := 0, slots := 0, locals := 0 }
set_option maxRecDepth 100000 in
theorem tX7_isLeaf_ok : ∀ q ∈ tX7_isLeaf, decode cX7_isLeaf q.1 = .ok q.2 ∧ pm_tok q.1 q.2.1 q.2.2 = true := by decide +kernel
set_option maxRecDepth 100000 in
theorem fX7_isLeaf_ok : ∀ q ∈ fX7_isLeaf, pm_Fok wsX7_isLeaf yX7_isLeaf.cls q.1 q.2.1 q.2.2 := fun _ h => absurd h List.not_mem_nil
set_option maxRecDepth 100000 in
theorem qX7_isLeaf_ok : ∀ q ∈ qX7_isLeaf, pm_Kok wsX7_isLeaf yX7_isLeaf.cls q.1 q.2 := fun _ h => absurd h List.not_mem_nil
set_option maxRecDepth 100000 in
theorem conX7_isLeaf (l : Launch) : pm_Con l yX7_isLeaf wsX7_isLeaf mX7_isLeaf shX 288 kX7_isLeaf := pm_met_con (cc := cX7_isLeaf) (by decide +kernel) rfl shX_N tX7_isLeaf_ok fX7_isLeaf_ok qX7_isLeaf_ok (fun _ h => absurd h List.not_mem_nil)

def tX7_leaf : List (Nat × (Instr × Nat)) := [(0, (.iload_n 1, 1)), (1, (.invokestatic 55, 3)), (4, (.ifCond .ne 5, 3)), (7, (.iconst 0, 1)), (8, (.ireturn, 1)), (9, (.aload_n 0, 1)), (10, (.getfield 9, 3)), (13, (.iload_n 1, 1)), (14, (.lload_n 2, 1)), (15, (.lastore, 1)), (16, (.iconst 1, 1)), (17, (.ireturn, 1))]
def fX7_leaf : List (Nat × (Nat × Nat)) := [(9, (6, 0))]
def qX7_leaf : List (Nat × (Int32 ⊕ Int64)) := []
noncomputable def lX7_leaf : List (Nat × (Nat × (Option Nat × pFN))) := [(55, (1, (none, kX7_isLeaf)))]
noncomputable def kX7_leaf : pFN := pm_met shX (some 6) tX7_leaf fX7_leaf qX7_leaf lX7_leaf 4 2
def mX7_leaf : Room := { frames := 1, cells := 0, slots := 0, locals := 20 }
set_option maxRecDepth 100000 in
theorem tX7_leaf_ok : ∀ q ∈ tX7_leaf, decode cX7_leaf q.1 = .ok q.2 ∧ pm_tok q.1 q.2.1 q.2.2 = true := by decide +kernel
set_option maxRecDepth 100000 in
theorem fX7_leaf_ok : ∀ q ∈ fX7_leaf, pm_Fok wsX7_leaf yX7_leaf.cls q.1 q.2.1 q.2.2 := List.forall_mem_cons.mpr ⟨⟨(RX7, TX7, 5), rfl, by decide, by decide +kernel, fun w h => List.mem_cons_of_mem _ (List.mem_append_right _ h)⟩, fun _ h => absurd h List.not_mem_nil⟩
set_option maxRecDepth 100000 in
theorem qX7_leaf_ok : ∀ q ∈ qX7_leaf, pm_Kok wsX7_leaf yX7_leaf.cls q.1 q.2 := fun _ h => absurd h List.not_mem_nil
set_option maxRecDepth 100000 in
theorem conX7_leaf (l : Launch) : pm_Con l yX7_leaf wsX7_leaf mX7_leaf shX 288 kX7_leaf := pm_met_con (cc := cX7_leaf) (by decide +kernel) rfl shX_N tX7_leaf_ok fX7_leaf_ok qX7_leaf_ok (List.forall_mem_cons.mpr ⟨Or.inl ⟨yX7_isLeaf, wsX7_isLeaf, _, mX7_isLeaf, cX7_isLeaf, 1, pm_rt 2, conX7_isLeaf l, gX7_leaf_X7_isLeaf, rfl, rfl, rfl, by decide +kernel, by decide⟩, fun _ h => absurd h List.not_mem_nil⟩)

def tX7_bound : List (Nat × (Instr × Nat)) := [(0, (.iload_n 1, 1)), (1, (.iconst 1, 1)), (2, (.if_icmp .lt 9, 3)), (5, (.iload_n 1, 1)), (6, (.bipush 100, 2)), (8, (.if_icmp .le 5, 3)), (11, (.iconst 0, 1)), (12, (.ireturn, 1)), (13, (.aload_n 0, 1)), (14, (.iload_n 1, 1)), (15, (.putfield 34, 3)), (18, (.iconst 1, 1)), (19, (.ireturn, 1))]
def fX7_bound : List (Nat × (Nat × Nat)) := [(34, (6, 4))]
def qX7_bound : List (Nat × (Int32 ⊕ Int64)) := []
noncomputable def lX7_bound : List (Nat × (Nat × (Option Nat × pFN))) := []
noncomputable def kX7_bound : pFN := pm_met shX (some 6) tX7_bound fX7_bound qX7_bound lX7_bound 2 2
def mX7_bound : Room := { frames := 0, cells := 0, slots := 0, locals := 0 }
set_option maxRecDepth 100000 in
theorem tX7_bound_ok : ∀ q ∈ tX7_bound, decode cX7_bound q.1 = .ok q.2 ∧ pm_tok q.1 q.2.1 q.2.2 = true := by decide +kernel
set_option maxRecDepth 100000 in
theorem fX7_bound_ok : ∀ q ∈ fX7_bound, pm_Fok wsX7_bound yX7_bound.cls q.1 q.2.1 q.2.2 := List.forall_mem_cons.mpr ⟨⟨(RX7, TX7, 5), rfl, by decide, by decide +kernel, fun w h => List.mem_cons_of_mem _ (List.mem_append_right _ h)⟩, fun _ h => absurd h List.not_mem_nil⟩
set_option maxRecDepth 100000 in
theorem qX7_bound_ok : ∀ q ∈ qX7_bound, pm_Kok wsX7_bound yX7_bound.cls q.1 q.2 := fun _ h => absurd h List.not_mem_nil
set_option maxRecDepth 100000 in
theorem conX7_bound (l : Launch) : pm_Con l yX7_bound wsX7_bound mX7_bound shX 288 kX7_bound := pm_met_con (cc := cX7_bound) (by decide +kernel) rfl shX_N tX7_bound_ok fX7_bound_ok qX7_bound_ok (fun _ h => absurd h List.not_mem_nil)

def tX7_run : List (Nat × (Instr × Nat)) := [(0, (.iload_n 1, 1)), (1, (.iconst 1, 1)), (2, (.if_icmp .lt 8, 3)), (5, (.iload_n 1, 1)), (6, (.iconst 4, 1)), (7, (.if_icmp .le 5, 3)), (10, (.iconst (-1), 1)), (11, (.ireturn, 1)), (12, (.aload_n 0, 1)), (13, (.getfield 23, 3)), (16, (.aload_n 0, 1)), (17, (.getfield 16, 3)), (20, (.aload_n 0, 1)), (21, (.getfield 9, 3)), (24, (.iload_n 1, 1)), (25, (.aload_n 0, 1)), (26, (.getfield 34, 3)), (29, (.invokevirtual 59, 3)), (32, (.aload_n 0, 1)), (33, (.getfield 23, 3)), (36, (.aload_n 0, 1)), (37, (.getfield 16, 3)), (40, (.iload_n 2, 1)), (41, (.invokevirtual 63, 3)), (44, (.iconst 0, 1)), (45, (.istore_n 3, 1)), (46, (.iload_n 3, 1)), (47, (.bipush 32, 2)), (49, (.if_icmp .ge 29, 3)), (52, (.aload_n 0, 1)), (53, (.getfield 9, 3)), (56, (.iload_n 3, 1)), (57, (.aload_n 0, 1)), (58, (.getfield 23, 3)), (61, (.getfield 67, 3)), (64, (.getfield 70, 3)), (67, (.iload_n 3, 1)), (68, (.invokevirtual 74, 3)), (71, (.lastore, 1)), (72, (.iinc 3 1, 3)), (75, (.goto (-29), 3)), (78, (.aload_n 0, 1)), (79, (.getfield 23, 3)), (82, (.getfield 80, 3)), (85, (.ireturn, 1))]
def fX7_run : List (Nat × (Nat × Nat)) := [(23, (6, 2)), (16, (6, 1)), (9, (6, 0)), (34, (6, 4)), (67, (5, 0)), (70, (1, 0)), (80, (5, 2))]
def qX7_run : List (Nat × (Int32 ⊕ Int64)) := []
noncomputable def lX7_run : List (Nat × (Nat × (Option Nat × pFN))) := [(59, (5, (some 5, kX6_open))), (63, (3, (some 5, kX6_work))), (74, (2, (some 4, kX5_valueAfter)))]
noncomputable def kX7_run : pFN := pm_met shX (some 6) tX7_run fX7_run qX7_run lX7_run 4 1
def mX7_run : Room := { frames := 6, cells := 0, slots := 0, locals := 148 }
set_option maxRecDepth 100000 in
theorem tX7_run_ok : ∀ q ∈ tX7_run, decode cX7_run q.1 = .ok q.2 ∧ pm_tok q.1 q.2.1 q.2.2 = true := by decide +kernel
set_option maxRecDepth 100000 in
theorem fX7_run_ok : ∀ q ∈ fX7_run, pm_Fok wsX7_run yX7_run.cls q.1 q.2.1 q.2.2 := List.forall_mem_cons.mpr ⟨⟨(RX7, TX7, 5), rfl, by decide, by decide +kernel, fun w h => List.mem_cons_of_mem _ (List.mem_append_left _ (List.mem_append_left _ (List.mem_append_left _ (List.mem_append_left _ (List.mem_append_left _ (List.mem_append_left _ (List.mem_append_right _ h)))))))⟩, List.forall_mem_cons.mpr ⟨⟨(RX7, TX7, 5), rfl, by decide, by decide +kernel, fun w h => List.mem_cons_of_mem _ (List.mem_append_left _ (List.mem_append_left _ (List.mem_append_left _ (List.mem_append_left _ (List.mem_append_left _ (List.mem_append_left _ (List.mem_append_right _ h)))))))⟩, List.forall_mem_cons.mpr ⟨⟨(RX7, TX7, 5), rfl, by decide, by decide +kernel, fun w h => List.mem_cons_of_mem _ (List.mem_append_left _ (List.mem_append_left _ (List.mem_append_left _ (List.mem_append_left _ (List.mem_append_left _ (List.mem_append_left _ (List.mem_append_right _ h)))))))⟩, List.forall_mem_cons.mpr ⟨⟨(RX7, TX7, 5), rfl, by decide, by decide +kernel, fun w h => List.mem_cons_of_mem _ (List.mem_append_left _ (List.mem_append_left _ (List.mem_append_left _ (List.mem_append_left _ (List.mem_append_left _ (List.mem_append_left _ (List.mem_append_right _ h)))))))⟩, List.forall_mem_cons.mpr ⟨⟨(RX6, TX6, 17), rfl, by decide, by decide +kernel, fun w h => List.mem_cons_of_mem _ (List.mem_append_left _ (List.mem_append_left _ (List.mem_append_left _ (List.mem_append_left _ (List.mem_append_left _ (List.mem_append_right _ h))))))⟩, List.forall_mem_cons.mpr ⟨⟨(RX1, TX1, 3), rfl, by decide, by decide +kernel, fun w h => List.mem_cons_of_mem _ (List.mem_append_left _ (List.mem_append_left _ (List.mem_append_left _ (List.mem_append_left _ (List.mem_append_right _ h)))))⟩, List.forall_mem_cons.mpr ⟨⟨(RX6, TX6, 17), rfl, by decide, by decide +kernel, fun w h => List.mem_cons_of_mem _ (List.mem_append_left _ (List.mem_append_left _ (List.mem_append_left _ (List.mem_append_left _ (List.mem_append_left _ (List.mem_append_right _ h))))))⟩, fun _ h => absurd h List.not_mem_nil⟩⟩⟩⟩⟩⟩⟩
set_option maxRecDepth 100000 in
theorem qX7_run_ok : ∀ q ∈ qX7_run, pm_Kok wsX7_run yX7_run.cls q.1 q.2 := fun _ h => absurd h List.not_mem_nil
set_option maxRecDepth 100000 in
theorem conX7_run (l : Launch) : pm_Con l yX7_run wsX7_run mX7_run shX 288 kX7_run := pm_met_con (cc := cX7_run) (by decide +kernel) rfl shX_N tX7_run_ok fX7_run_ok qX7_run_ok (List.forall_mem_cons.mpr ⟨⟨yX6_open, wsX6_open, _, mX6_open, cX6_open, 5, pm_rt 0, (RX6, TX6, 17), conX6_open l, pm_met_recv, rfl, gX7_run_X6_open, rfl, rfl, rfl, by decide +kernel, by decide⟩, List.forall_mem_cons.mpr ⟨⟨yX6_work, wsX6_work, _, mX6_work, cX6_work, 4, pm_rt 0, (RX6, TX6, 17), conX6_work l, pm_met_recv, rfl, gX7_run_X6_work, rfl, rfl, rfl, by decide +kernel, by decide⟩, List.forall_mem_cons.mpr ⟨⟨yX5_valueAfter, wsX5_valueAfter, _, mX5_valueAfter, cX5_valueAfter, 2, pm_rt 3, (RX5, TX5, 4), conX5_valueAfter l, pm_met_recv, rfl, gX7_run_X5_valueAfter, rfl, rfl, rfl, by decide +kernel, by decide⟩, fun _ h => absurd h List.not_mem_nil⟩⟩⟩)

def tX7_at : List (Nat × (Instr × Nat)) := [(0, (.iload_n 1, 1)), (1, (.invokestatic 55, 3)), (4, (.ifCond .eq 12, 3)), (7, (.aload_n 0, 1)), (8, (.getfield 9, 3)), (11, (.iload_n 1, 1)), (12, (.laload, 1)), (13, (.goto 4, 3)), (16, (.lconst 0, 1)), (17, (.lreturn, 1))]
def fX7_at : List (Nat × (Nat × Nat)) := [(9, (6, 0))]
def qX7_at : List (Nat × (Int32 ⊕ Int64)) := []
noncomputable def lX7_at : List (Nat × (Nat × (Option Nat × pFN))) := [(55, (1, (none, kX7_isLeaf)))]
noncomputable def kX7_at : pFN := pm_met shX (some 6) tX7_at fX7_at qX7_at lX7_at 2 3
def mX7_at : Room := { frames := 1, cells := 0, slots := 0, locals := 20 }
set_option maxRecDepth 100000 in
theorem tX7_at_ok : ∀ q ∈ tX7_at, decode cX7_at q.1 = .ok q.2 ∧ pm_tok q.1 q.2.1 q.2.2 = true := by decide +kernel
set_option maxRecDepth 100000 in
theorem fX7_at_ok : ∀ q ∈ fX7_at, pm_Fok wsX7_at yX7_at.cls q.1 q.2.1 q.2.2 := List.forall_mem_cons.mpr ⟨⟨(RX7, TX7, 5), rfl, by decide, by decide +kernel, fun w h => List.mem_cons_of_mem _ (List.mem_append_right _ h)⟩, fun _ h => absurd h List.not_mem_nil⟩
set_option maxRecDepth 100000 in
theorem qX7_at_ok : ∀ q ∈ qX7_at, pm_Kok wsX7_at yX7_at.cls q.1 q.2 := fun _ h => absurd h List.not_mem_nil
set_option maxRecDepth 100000 in
theorem conX7_at (l : Launch) : pm_Con l yX7_at wsX7_at mX7_at shX 288 kX7_at := pm_met_con (cc := cX7_at) (by decide +kernel) rfl shX_N tX7_at_ok fX7_at_ok qX7_at_ok (List.forall_mem_cons.mpr ⟨Or.inl ⟨yX7_isLeaf, wsX7_isLeaf, _, mX7_isLeaf, cX7_isLeaf, 1, pm_rt 2, conX7_isLeaf l, gX7_at_X7_isLeaf, rfl, rfl, rfl, by decide +kernel, by decide⟩, fun _ h => absurd h List.not_mem_nil⟩)

def tX7_inOrder : List (Nat × (Instr × Nat)) := [(0, (.iload_n 1, 1)), (1, (.invokestatic 55, 3)), (4, (.ifCond .ne 5, 3)), (7, (.lconst 0, 1)), (8, (.lreturn, 1)), (9, (.aload_n 0, 1)), (10, (.getfield 30, 3)), (13, (.aload_n 0, 1)), (14, (.getfield 16, 3)), (17, (.aload_n 0, 1)), (18, (.getfield 9, 3)), (21, (.invokevirtual 83, 3)), (24, (.aload_n 0, 1)), (25, (.getfield 30, 3)), (28, (.aload_n 0, 1)), (29, (.getfield 16, 3)), (32, (.invokevirtual 86, 3)), (35, (.aload_n 0, 1)), (36, (.getfield 30, 3)), (39, (.getfield 70, 3)), (42, (.iload_n 1, 1)), (43, (.invokevirtual 74, 3)), (46, (.lreturn, 1))]
def fX7_inOrder : List (Nat × (Nat × Nat)) := [(30, (6, 3)), (16, (6, 1)), (9, (6, 0)), (70, (1, 0))]
def qX7_inOrder : List (Nat × (Int32 ⊕ Int64)) := []
noncomputable def lX7_inOrder : List (Nat × (Nat × (Option Nat × pFN))) := [(55, (1, (none, kX7_isLeaf))), (83, (3, (some 1, kX1_open))), (86, (2, (some 1, kX1_runOneByOne))), (74, (2, (some 4, kX5_valueAfter)))]
noncomputable def kX7_inOrder : pFN := pm_met shX (some 6) tX7_inOrder fX7_inOrder qX7_inOrder lX7_inOrder 2 3
def mX7_inOrder : Room := { frames := 4, cells := 0, slots := 0, locals := 102 }
set_option maxRecDepth 100000 in
theorem tX7_inOrder_ok : ∀ q ∈ tX7_inOrder, decode cX7_inOrder q.1 = .ok q.2 ∧ pm_tok q.1 q.2.1 q.2.2 = true := by decide +kernel
set_option maxRecDepth 100000 in
theorem fX7_inOrder_ok : ∀ q ∈ fX7_inOrder, pm_Fok wsX7_inOrder yX7_inOrder.cls q.1 q.2.1 q.2.2 := List.forall_mem_cons.mpr ⟨⟨(RX7, TX7, 5), rfl, by decide, by decide +kernel, fun w h => List.mem_cons_of_mem _ (List.mem_append_left _ (List.mem_append_left _ (List.mem_append_left _ (List.mem_append_left _ (List.mem_append_right _ h)))))⟩, List.forall_mem_cons.mpr ⟨⟨(RX7, TX7, 5), rfl, by decide, by decide +kernel, fun w h => List.mem_cons_of_mem _ (List.mem_append_left _ (List.mem_append_left _ (List.mem_append_left _ (List.mem_append_left _ (List.mem_append_right _ h)))))⟩, List.forall_mem_cons.mpr ⟨⟨(RX7, TX7, 5), rfl, by decide, by decide +kernel, fun w h => List.mem_cons_of_mem _ (List.mem_append_left _ (List.mem_append_left _ (List.mem_append_left _ (List.mem_append_left _ (List.mem_append_right _ h)))))⟩, List.forall_mem_cons.mpr ⟨⟨(RX1, TX1, 3), rfl, by decide, by decide +kernel, fun w h => List.mem_cons_of_mem _ (List.mem_append_left _ (List.mem_append_left _ (List.mem_append_left _ (List.mem_append_right _ h))))⟩, fun _ h => absurd h List.not_mem_nil⟩⟩⟩⟩
set_option maxRecDepth 100000 in
theorem qX7_inOrder_ok : ∀ q ∈ qX7_inOrder, pm_Kok wsX7_inOrder yX7_inOrder.cls q.1 q.2 := fun _ h => absurd h List.not_mem_nil
set_option maxRecDepth 100000 in
theorem conX7_inOrder (l : Launch) : pm_Con l yX7_inOrder wsX7_inOrder mX7_inOrder shX 288 kX7_inOrder := pm_met_con (cc := cX7_inOrder) (by decide +kernel) rfl shX_N tX7_inOrder_ok fX7_inOrder_ok qX7_inOrder_ok (List.forall_mem_cons.mpr ⟨Or.inl ⟨yX7_isLeaf, wsX7_isLeaf, _, mX7_isLeaf, cX7_isLeaf, 1, pm_rt 2, conX7_isLeaf l, gX7_inOrder_X7_isLeaf, rfl, rfl, rfl, by decide +kernel, by decide⟩, List.forall_mem_cons.mpr ⟨⟨yX1_open, wsX1_open, _, mX1_open, cX1_open, 4, pm_rt 0, (RX1, TX1, 3), conX1_open l, pm_met_recv, rfl, gX7_inOrder_X1_open, rfl, rfl, rfl, by decide +kernel, by decide⟩, List.forall_mem_cons.mpr ⟨⟨yX1_runOneByOne, wsX1_runOneByOne, _, mX1_runOneByOne, cX1_runOneByOne, 5, pm_rt 0, (RX1, TX1, 3), conX1_runOneByOne l, pm_met_recv, rfl, gX7_inOrder_X1_runOneByOne, rfl, rfl, rfl, by decide +kernel, by decide⟩, List.forall_mem_cons.mpr ⟨⟨yX5_valueAfter, wsX5_valueAfter, _, mX5_valueAfter, cX5_valueAfter, 2, pm_rt 3, (RX5, TX5, 4), conX5_valueAfter l, pm_met_recv, rfl, gX7_inOrder_X5_valueAfter, rfl, rfl, rfl, by decide +kernel, by decide⟩, fun _ h => absurd h List.not_mem_nil⟩⟩⟩⟩)

def tX7_events : List (Nat × (Instr × Nat)) := [(0, (.aload_n 0, 1)), (1, (.getfield 23, 3)), (4, (.getfield 67, 3)), (7, (.invokevirtual 90, 3)), (10, (.ireturn, 1))]
def fX7_events : List (Nat × (Nat × Nat)) := [(23, (6, 2)), (67, (5, 0))]
def qX7_events : List (Nat × (Int32 ⊕ Int64)) := []
noncomputable def lX7_events : List (Nat × (Nat × (Option Nat × pFN))) := [(90, (1, (some 1, kX1_countEvents)))]
noncomputable def kX7_events : pFN := pm_met shX (some 6) tX7_events fX7_events qX7_events lX7_events 1 1
def mX7_events : Room := { frames := 1, cells := 0, slots := 0, locals := 22 }
set_option maxRecDepth 100000 in
theorem tX7_events_ok : ∀ q ∈ tX7_events, decode cX7_events q.1 = .ok q.2 ∧ pm_tok q.1 q.2.1 q.2.2 = true := by decide +kernel
set_option maxRecDepth 100000 in
theorem fX7_events_ok : ∀ q ∈ fX7_events, pm_Fok wsX7_events yX7_events.cls q.1 q.2.1 q.2.2 := List.forall_mem_cons.mpr ⟨⟨(RX7, TX7, 5), rfl, by decide, by decide +kernel, fun w h => List.mem_cons_of_mem _ (List.mem_append_left _ (List.mem_append_left _ (List.mem_append_left _ (List.mem_append_right _ h))))⟩, List.forall_mem_cons.mpr ⟨⟨(RX6, TX6, 17), rfl, by decide, by decide +kernel, fun w h => List.mem_cons_of_mem _ (List.mem_append_left _ (List.mem_append_left _ (List.mem_append_right _ h)))⟩, fun _ h => absurd h List.not_mem_nil⟩⟩
set_option maxRecDepth 100000 in
theorem qX7_events_ok : ∀ q ∈ qX7_events, pm_Kok wsX7_events yX7_events.cls q.1 q.2 := fun _ h => absurd h List.not_mem_nil
set_option maxRecDepth 100000 in
theorem conX7_events (l : Launch) : pm_Con l yX7_events wsX7_events mX7_events shX 288 kX7_events := pm_met_con (cc := cX7_events) (by decide +kernel) rfl shX_N tX7_events_ok fX7_events_ok qX7_events_ok (List.forall_mem_cons.mpr ⟨⟨yX1_countEvents, wsX1_countEvents, _, mX1_countEvents, cX1_countEvents, 3, pm_rt 1, (RX1, TX1, 3), conX1_countEvents l, pm_met_recv, rfl, gX7_events_X1_countEvents, rfl, rfl, rfl, by decide +kernel, by decide⟩, fun _ h => absurd h List.not_mem_nil⟩)
