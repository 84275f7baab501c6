def tX1_joinTouching : List (Nat × (Instr × Nat)) := [(0, (.iconst (-1), 1)), (1, (.istore_n 2, 1)), (2, (.iconst 0, 1)), (3, (.istore_n 3, 1)), (4, (.iload_n 3, 1)), (5, (.aload_n 0, 1)), (6, (.getfield 33, 3)), (9, (.if_icmp .ge 51, 3)), (12, (.aload_n 0, 1)), (13, (.getfield 20, 3)), (16, (.iload_n 3, 1)), (17, (.aaload, 1)), (18, (.iload_n 1, 1)), (19, (.invokevirtual 61, 3)), (22, (.ifCond .eq 32, 3)), (25, (.iload_n 2, 1)), (26, (.iconst (-1), 1)), (27, (.if_icmp .ne 5, 3)), (30, (.iload_n 3, 1)), (31, (.istore_n 2, 1)), (32, (.aload_n 0, 1)), (33, (.aload_n 0, 1)), (34, (.getfield 20, 3)), (37, (.iload_n 2, 1)), (38, (.aaload, 1)), (39, (.getfield 55, 3)), (42, (.aload_n 0, 1)), (43, (.getfield 20, 3)), (46, (.iload_n 3, 1)), (47, (.aaload, 1)), (48, (.getfield 55, 3)), (51, (.invokevirtual 65, 3)), (54, (.iinc 3 1, 3)), (57, (.goto (-53), 3)), (60, (.return_, 1))]
def fX1_joinTouching : List (Nat × (Nat × Nat)) := [(33, (1, 2)), (20, (1, 1)), (55, (0, 7))]
def qX1_joinTouching : List (Nat × (Int32 ⊕ Int64)) := []
noncomputable def lX1_joinTouching : List (Nat × (Nat × (Option Nat × pFN))) := [(61, (2, (some 0, kX0_touched))), (65, (3, (some 1, kX1_joinGroups)))]
noncomputable def kX1_joinTouching : pFN := pm_met shX (some 1) tX1_joinTouching fX1_joinTouching qX1_joinTouching lX1_joinTouching 4 0
def mX1_joinTouching : Room := { frames := 2, cells := 0, slots := 0, locals := 46 }
set_option maxRecDepth 100000 in
theorem tX1_joinTouching_ok : ∀ q ∈ tX1_joinTouching, decode cX1_joinTouching q.1 = .ok q.2 ∧ pm_tok q.1 q.2.1 q.2.2 = true := by decide +kernel
set_option maxRecDepth 100000 in
theorem fX1_joinTouching_ok : ∀ q ∈ fX1_joinTouching, pm_Fok wsX1_joinTouching yX1_joinTouching.cls q.1 q.2.1 q.2.2 := List.forall_mem_cons.mpr ⟨⟨(RX1, TX1, 3), rfl, by decide, by decide +kernel, fun w h => List.mem_cons_of_mem _ (List.mem_append_left _ (List.mem_append_right _ h))⟩, List.forall_mem_cons.mpr ⟨⟨(RX1, TX1, 3), rfl, by decide, by decide +kernel, fun w h => List.mem_cons_of_mem _ (List.mem_append_left _ (List.mem_append_right _ h))⟩, List.forall_mem_cons.mpr ⟨⟨(RX0, TX0, 18), rfl, by decide, by decide +kernel, fun w h => List.mem_cons_of_mem _ (List.mem_append_right _ h)⟩, fun _ h => absurd h List.not_mem_nil⟩⟩⟩
set_option maxRecDepth 100000 in
theorem qX1_joinTouching_ok : ∀ q ∈ qX1_joinTouching, pm_Kok wsX1_joinTouching yX1_joinTouching.cls q.1 q.2 := fun _ h => absurd h List.not_mem_nil
set_option maxRecDepth 100000 in
theorem conX1_joinTouching (l : Launch) : pm_Con l yX1_joinTouching wsX1_joinTouching mX1_joinTouching shX 288 kX1_joinTouching := pm_met_con (cc := cX1_joinTouching) (by decide +kernel) rfl shX_N tX1_joinTouching_ok fX1_joinTouching_ok qX1_joinTouching_ok (List.forall_mem_cons.mpr ⟨⟨yX0_touched, wsX0_touched, _, mX0_touched, cX0_touched, 2, pm_rt 2, (RX0, TX0, 18), conX0_touched l, pm_met_recv, rfl, gX1_joinTouching_X0_touched, rfl, rfl, rfl, by decide +kernel, by decide⟩, List.forall_mem_cons.mpr ⟨⟨yX1_joinGroups, wsX1_joinGroups, _, mX1_joinGroups, cX1_joinGroups, 6, pm_rt 0, (RX1, TX1, 3), conX1_joinGroups l, pm_met_recv, rfl, gX1_joinTouching_X1_joinGroups, rfl, rfl, rfl, by decide +kernel, by decide⟩, fun _ h => absurd h List.not_mem_nil⟩⟩)

def tX1_formGroups : List (Nat × (Instr × Nat)) := [(0, (.iconst 0, 1)), (1, (.istore_n 1, 1)), (2, (.iload_n 1, 1)), (3, (.aload_n 0, 1)), (4, (.getfield 33, 3)), (7, (.if_icmp .ge 19, 3)), (10, (.aload_n 0, 1)), (11, (.getfield 20, 3)), (14, (.iload_n 1, 1)), (15, (.aaload, 1)), (16, (.iload_n 1, 1)), (17, (.putfield 55, 3)), (20, (.iinc 1 1, 3)), (23, (.goto (-21), 3)), (26, (.iconst 0, 1)), (27, (.istore_n 1, 1)), (28, (.iload_n 1, 1)), (29, (.bipush 32, 2)), (31, (.if_icmp .ge 14, 3)), (34, (.aload_n 0, 1)), (35, (.iload_n 1, 1)), (36, (.invokevirtual 58, 3)), (39, (.iinc 1 1, 3)), (42, (.goto (-14), 3)), (45, (.return_, 1))]
def fX1_formGroups : List (Nat × (Nat × Nat)) := [(33, (1, 2)), (20, (1, 1)), (55, (0, 7))]
def qX1_formGroups : List (Nat × (Int32 ⊕ Int64)) := []
noncomputable def lX1_formGroups : List (Nat × (Nat × (Option Nat × pFN))) := [(58, (2, (some 1, kX1_joinTouching)))]
noncomputable def kX1_formGroups : pFN := pm_met shX (some 1) tX1_formGroups fX1_formGroups qX1_formGroups lX1_formGroups 2 0
def mX1_formGroups : Room := { frames := 3, cells := 0, slots := 0, locals := 69 }
set_option maxRecDepth 100000 in
theorem tX1_formGroups_ok : ∀ q ∈ tX1_formGroups, decode cX1_formGroups q.1 = .ok q.2 ∧ pm_tok q.1 q.2.1 q.2.2 = true := by decide +kernel
set_option maxRecDepth 100000 in
theorem fX1_formGroups_ok : ∀ q ∈ fX1_formGroups, pm_Fok wsX1_formGroups yX1_formGroups.cls q.1 q.2.1 q.2.2 := List.forall_mem_cons.mpr ⟨⟨(RX1, TX1, 3), rfl, by decide, by decide +kernel, fun w h => List.mem_cons_of_mem _ (List.mem_append_left _ (List.mem_append_right _ h))⟩, List.forall_mem_cons.mpr ⟨⟨(RX1, TX1, 3), rfl, by decide, by decide +kernel, fun w h => List.mem_cons_of_mem _ (List.mem_append_left _ (List.mem_append_right _ h))⟩, List.forall_mem_cons.mpr ⟨⟨(RX0, TX0, 18), rfl, by decide, by decide +kernel, fun w h => List.mem_cons_of_mem _ (List.mem_append_right _ h)⟩, fun _ h => absurd h List.not_mem_nil⟩⟩⟩
set_option maxRecDepth 100000 in
theorem qX1_formGroups_ok : ∀ q ∈ qX1_formGroups, pm_Kok wsX1_formGroups yX1_formGroups.cls q.1 q.2 := fun _ h => absurd h List.not_mem_nil
set_option maxRecDepth 100000 in
theorem conX1_formGroups (l : Launch) : pm_Con l yX1_formGroups wsX1_formGroups mX1_formGroups shX 288 kX1_formGroups := pm_met_con (cc := cX1_formGroups) (by decide +kernel) rfl shX_N tX1_formGroups_ok fX1_formGroups_ok qX1_formGroups_ok (List.forall_mem_cons.mpr ⟨⟨yX1_joinTouching, wsX1_joinTouching, _, mX1_joinTouching, cX1_joinTouching, 4, pm_rt 0, (RX1, TX1, 3), conX1_joinTouching l, pm_met_recv, rfl, gX1_formGroups_X1_joinTouching, rfl, rfl, rfl, by decide +kernel, by decide⟩, fun _ h => absurd h List.not_mem_nil⟩)

def tX1_countGroups : List (Nat × (Instr × Nat)) := [(0, (.iconst 0, 1)), (1, (.istore_n 1, 1)), (2, (.iconst 0, 1)), (3, (.istore_n 2, 1)), (4, (.iload_n 2, 1)), (5, (.aload_n 0, 1)), (6, (.getfield 33, 3)), (9, (.if_icmp .ge 25, 3)), (12, (.aload_n 0, 1)), (13, (.getfield 20, 3)), (16, (.iload_n 2, 1)), (17, (.aaload, 1)), (18, (.getfield 55, 3)), (21, (.iload_n 2, 1)), (22, (.if_icmp .ne 6, 3)), (25, (.iinc 1 1, 3)), (28, (.iinc 2 1, 3)), (31, (.goto (-27), 3)), (34, (.iload_n 1, 1)), (35, (.ireturn, 1))]
def fX1_countGroups : List (Nat × (Nat × Nat)) := [(33, (1, 2)), (20, (1, 1)), (55, (0, 7))]
def qX1_countGroups : List (Nat × (Int32 ⊕ Int64)) := []
noncomputable def lX1_countGroups : List (Nat × (Nat × (Option Nat × pFN))) := []
noncomputable def kX1_countGroups : pFN := pm_met shX (some 1) tX1_countGroups fX1_countGroups qX1_countGroups lX1_countGroups 3 1
def mX1_countGroups : Room := { frames := 0, cells := 0, slots := 0, locals := 0 }
set_option maxRecDepth 100000 in
theorem tX1_countGroups_ok : ∀ q ∈ tX1_countGroups, decode cX1_countGroups q.1 = .ok q.2 ∧ pm_tok q.1 q.2.1 q.2.2 = true := by decide +kernel
set_option maxRecDepth 100000 in
theorem fX1_countGroups_ok : ∀ q ∈ fX1_countGroups, pm_Fok wsX1_countGroups yX1_countGroups.cls q.1 q.2.1 q.2.2 := List.forall_mem_cons.mpr ⟨⟨(RX1, TX1, 3), rfl, by decide, by decide +kernel, fun w h => List.mem_cons_of_mem _ (List.mem_append_left _ (List.mem_append_right _ h))⟩, List.forall_mem_cons.mpr ⟨⟨(RX1, TX1, 3), rfl, by decide, by decide +kernel, fun w h => List.mem_cons_of_mem _ (List.mem_append_left _ (List.mem_append_right _ h))⟩, List.forall_mem_cons.mpr ⟨⟨(RX0, TX0, 18), rfl, by decide, by decide +kernel, fun w h => List.mem_cons_of_mem _ (List.mem_append_right _ h)⟩, fun _ h => absurd h List.not_mem_nil⟩⟩⟩
set_option maxRecDepth 100000 in
theorem qX1_countGroups_ok : ∀ q ∈ qX1_countGroups, pm_Kok wsX1_countGroups yX1_countGroups.cls q.1 q.2 := fun _ h => absurd h List.not_mem_nil
set_option maxRecDepth 100000 in
theorem conX1_countGroups (l : Launch) : pm_Con l yX1_countGroups wsX1_countGroups mX1_countGroups shX 288 kX1_countGroups := pm_met_con (cc := cX1_countGroups) (by decide +kernel) rfl shX_N tX1_countGroups_ok fX1_countGroups_ok qX1_countGroups_ok (fun _ h => absurd h List.not_mem_nil)

def tX1_countActs : List (Nat × (Instr × Nat)) := [(0, (.iconst 0, 1)), (1, (.istore_n 1, 1)), (2, (.iconst 0, 1)), (3, (.istore_n 2, 1)), (4, (.iload_n 2, 1)), (5, (.aload_n 0, 1)), (6, (.getfield 33, 3)), (9, (.if_icmp .ge 21, 3)), (12, (.iload_n 1, 1)), (13, (.aload_n 0, 1)), (14, (.getfield 20, 3)), (17, (.iload_n 2, 1)), (18, (.aaload, 1)), (19, (.getfield 75, 3)), (22, (.iadd, 1)), (23, (.istore_n 1, 1)), (24, (.iinc 2 1, 3)), (27, (.goto (-23), 3)), (30, (.iload_n 1, 1)), (31, (.ireturn, 1))]
def fX1_countActs : List (Nat × (Nat × Nat)) := [(33, (1, 2)), (20, (1, 1)), (75, (0, 2))]
def qX1_countActs : List (Nat × (Int32 ⊕ Int64)) := []
noncomputable def lX1_countActs : List (Nat × (Nat × (Option Nat × pFN))) := []
noncomputable def kX1_countActs : pFN := pm_met shX (some 1) tX1_countActs fX1_countActs qX1_countActs lX1_countActs 3 1
def mX1_countActs : Room := { frames := 0, cells := 0, slots := 0, locals := 0 }
set_option maxRecDepth 100000 in
theorem tX1_countActs_ok : ∀ q ∈ tX1_countActs, decode cX1_countActs q.1 = .ok q.2 ∧ pm_tok q.1 q.2.1 q.2.2 = true := by decide +kernel
set_option maxRecDepth 100000 in
theorem fX1_countActs_ok : ∀ q ∈ fX1_countActs, pm_Fok wsX1_countActs yX1_countActs.cls q.1 q.2.1 q.2.2 := List.forall_mem_cons.mpr ⟨⟨(RX1, TX1, 3), rfl, by decide, by decide +kernel, fun w h => List.mem_cons_of_mem _ (List.mem_append_left _ (List.mem_append_right _ h))⟩, List.forall_mem_cons.mpr ⟨⟨(RX1, TX1, 3), rfl, by decide, by decide +kernel, fun w h => List.mem_cons_of_mem _ (List.mem_append_left _ (List.mem_append_right _ h))⟩, List.forall_mem_cons.mpr ⟨⟨(RX0, TX0, 18), rfl, by decide, by decide +kernel, fun w h => List.mem_cons_of_mem _ (List.mem_append_right _ h)⟩, fun _ h => absurd h List.not_mem_nil⟩⟩⟩
set_option maxRecDepth 100000 in
theorem qX1_countActs_ok : ∀ q ∈ qX1_countActs, pm_Kok wsX1_countActs yX1_countActs.cls q.1 q.2 := fun _ h => absurd h List.not_mem_nil
set_option maxRecDepth 100000 in
theorem conX1_countActs (l : Launch) : pm_Con l yX1_countActs wsX1_countActs mX1_countActs shX 288 kX1_countActs := pm_met_con (cc := cX1_countActs) (by decide +kernel) rfl shX_N tX1_countActs_ok fX1_countActs_ok qX1_countActs_ok (fun _ h => absurd h List.not_mem_nil)

def tX1_countEvents : List (Nat × (Instr × Nat)) := [(0, (.iconst 0, 1)), (1, (.istore_n 1, 1)), (2, (.iconst 0, 1)), (3, (.istore_n 2, 1)), (4, (.iload_n 2, 1)), (5, (.aload_n 0, 1)), (6, (.getfield 33, 3)), (9, (.if_icmp .ge 21, 3)), (12, (.iload_n 1, 1)), (13, (.aload_n 0, 1)), (14, (.getfield 20, 3)), (17, (.iload_n 2, 1)), (18, (.aaload, 1)), (19, (.getfield 78, 3)), (22, (.iadd, 1)), (23, (.istore_n 1, 1)), (24, (.iinc 2 1, 3)), (27, (.goto (-23), 3)), (30, (.iload_n 1, 1)), (31, (.ireturn, 1))]
def fX1_countEvents : List (Nat × (Nat × Nat)) := [(33, (1, 2)), (20, (1, 1)), (78, (0, 6))]
def qX1_countEvents : List (Nat × (Int32 ⊕ Int64)) := []
noncomputable def lX1_countEvents : List (Nat × (Nat × (Option Nat × pFN))) := []
noncomputable def kX1_countEvents : pFN := pm_met shX (some 1) tX1_countEvents fX1_countEvents qX1_countEvents lX1_countEvents 3 1
def mX1_countEvents : Room := { frames := 0, cells := 0, slots := 0, locals := 0 }
set_option maxRecDepth 100000 in
theorem tX1_countEvents_ok : ∀ q ∈ tX1_countEvents, decode cX1_countEvents q.1 = .ok q.2 ∧ pm_tok q.1 q.2.1 q.2.2 = true := by decide +kernel
set_option maxRecDepth 100000 in
theorem fX1_countEvents_ok : ∀ q ∈ fX1_countEvents, pm_Fok wsX1_countEvents yX1_countEvents.cls q.1 q.2.1 q.2.2 := List.forall_mem_cons.mpr ⟨⟨(RX1, TX1, 3), rfl, by decide, by decide +kernel, fun w h => List.mem_cons_of_mem _ (List.mem_append_left _ (List.mem_append_right _ h))⟩, List.forall_mem_cons.mpr ⟨⟨(RX1, TX1, 3), rfl, by decide, by decide +kernel, fun w h => List.mem_cons_of_mem _ (List.mem_append_left _ (List.mem_append_right _ h))⟩, List.forall_mem_cons.mpr ⟨⟨(RX0, TX0, 18), rfl, by decide, by decide +kernel, fun w h => List.mem_cons_of_mem _ (List.mem_append_right _ h)⟩, fun _ h => absurd h List.not_mem_nil⟩⟩⟩
set_option maxRecDepth 100000 in
theorem qX1_countEvents_ok : ∀ q ∈ qX1_countEvents, pm_Kok wsX1_countEvents yX1_countEvents.cls q.1 q.2 := fun _ h => absurd h List.not_mem_nil
set_option maxRecDepth 100000 in
theorem conX1_countEvents (l : Launch) : pm_Con l yX1_countEvents wsX1_countEvents mX1_countEvents shX 288 kX1_countEvents := pm_met_con (cc := cX1_countEvents) (by decide +kernel) rfl shX_N tX1_countEvents_ok fX1_countEvents_ok qX1_countEvents_ok (fun _ h => absurd h List.not_mem_nil)

def tX1_tellEvent : List (Nat × (Instr × Nat)) := [(0, (.iload_n 1, 1)), (1, (.ifCond .lt 12, 3)), (4, (.iload_n 2, 1)), (5, (.ifCond .lt 8, 3)), (8, (.iload_n 2, 1)), (9, (.iconst 1, 1)), (10, (.if_icmp .le 5, 3)), (13, (.lconst 0, 1)), (14, (.lreturn, 1)), (15, (.iload_n 1, 1)), (16, (.istore_n 3, 1)), (17, (.iconst 0, 1)), (18, (.istore 4, 2)), (20, (.iload 4, 2)), (22, (.aload_n 0, 1)), (23, (.getfield 33, 3)), (26, (.if_icmp .ge 53, 3)), (29, (.aload_n 0, 1)), (30, (.getfield 20, 3)), (33, (.iload 4, 2)), (35, (.aaload, 1)), (36, (.astore 5, 2)), (38, (.iload_n 3, 1)), (39, (.aload 5, 2)), (41, (.getfield 78, 3)), (44, (.if_icmp .ge 21, 3)), (47, (.iload_n 2, 1)), (48, (.ifCond .ne 13, 3)), (51, (.aload 5, 2)), (53, (.getfield 81, 3)), (56, (.iload_n 3, 1)), (57, (.laload, 1)), (58, (.goto 6, 3)), (61, (.iload 4, 2)), (63, (.i2l, 1)), (64, (.lreturn, 1)), (65, (.iload_n 3, 1)), (66, (.aload 5, 2)), (68, (.getfield 78, 3)), (71, (.isub, 1)), (72, (.istore_n 3, 1)), (73, (.iinc 4 1, 3)), (76, (.goto (-56), 3)), (79, (.lconst 0, 1)), (80, (.lreturn, 1))]
def fX1_tellEvent : List (Nat × (Nat × Nat)) := [(33, (1, 2)), (20, (1, 1)), (78, (0, 6)), (81, (0, 9))]
def qX1_tellEvent : List (Nat × (Int32 ⊕ Int64)) := []
noncomputable def lX1_tellEvent : List (Nat × (Nat × (Option Nat × pFN))) := []
noncomputable def kX1_tellEvent : pFN := pm_met shX (some 1) tX1_tellEvent fX1_tellEvent qX1_tellEvent lX1_tellEvent 6 3
def mX1_tellEvent : Room := { frames := 0, cells := 0, slots := 0, locals := 0 }
set_option maxRecDepth 100000 in
theorem tX1_tellEvent_ok : ∀ q ∈ tX1_tellEvent, decode cX1_tellEvent q.1 = .ok q.2 ∧ pm_tok q.1 q.2.1 q.2.2 = true := by decide +kernel
set_option maxRecDepth 100000 in
theorem fX1_tellEvent_ok : ∀ q ∈ fX1_tellEvent, pm_Fok wsX1_tellEvent yX1_tellEvent.cls q.1 q.2.1 q.2.2 := List.forall_mem_cons.mpr ⟨⟨(RX1, TX1, 3), rfl, by decide, by decide +kernel, fun w h => List.mem_cons_of_mem _ (List.mem_append_left _ (List.mem_append_right _ h))⟩, List.forall_mem_cons.mpr ⟨⟨(RX1, TX1, 3), rfl, by decide, by decide +kernel, fun w h => List.mem_cons_of_mem _ (List.mem_append_left _ (List.mem_append_right _ h))⟩, List.forall_mem_cons.mpr ⟨⟨(RX0, TX0, 18), rfl, by decide, by decide +kernel, fun w h => List.mem_cons_of_mem _ (List.mem_append_right _ h)⟩, List.forall_mem_cons.mpr ⟨⟨(RX0, TX0, 18), rfl, by decide, by decide +kernel, fun w h => List.mem_cons_of_mem _ (List.mem_append_right _ h)⟩, fun _ h => absurd h List.not_mem_nil⟩⟩⟩⟩
set_option maxRecDepth 100000 in
theorem qX1_tellEvent_ok : ∀ q ∈ qX1_tellEvent, pm_Kok wsX1_tellEvent yX1_tellEvent.cls q.1 q.2 := fun _ h => absurd h List.not_mem_nil
set_option maxRecDepth 100000 in
theorem conX1_tellEvent (l : Launch) : pm_Con l yX1_tellEvent wsX1_tellEvent mX1_tellEvent shX 288 kX1_tellEvent := pm_met_con (cc := cX1_tellEvent) (by decide +kernel) rfl shX_N tX1_tellEvent_ok fX1_tellEvent_ok qX1_tellEvent_ok (fun _ h => absurd h List.not_mem_nil)

def tX1_tellCall : List (Nat × (Instr × Nat)) := [(0, (.iload_n 1, 1)), (1, (.ifCond .lt 11, 3)), (4, (.iload_n 1, 1)), (5, (.aload_n 0, 1)), (6, (.getfield 33, 3)), (9, (.if_icmp .lt 5, 3)), (12, (.iconst (-1), 1)), (13, (.ireturn, 1)), (14, (.aload_n 0, 1)), (15, (.getfield 20, 3)), (18, (.iload_n 1, 1)), (19, (.aaload, 1)), (20, (.astore_n 3, 1)), (21, (.iload_n 2, 1)), (22, (.tableswitch 76 0 5 #[38, 43, 48, 61, 66, 71], 38)), (60, (.aload_n 3, 1)), (61, (.getfield 85, 3)), (64, (.ireturn, 1)), (65, (.aload_n 3, 1)), (66, (.getfield 88, 3)), (69, (.ireturn, 1)), (70, (.aload_n 3, 1)), (71, (.getfield 91, 3)), (74, (.ifCond .eq 7, 3)), (77, (.iconst 1, 1)), (78, (.goto 4, 3)), (81, (.iconst 0, 1)), (82, (.ireturn, 1)), (83, (.aload_n 3, 1)), (84, (.getfield 95, 3)), (87, (.ireturn, 1)), (88, (.aload_n 3, 1)), (89, (.invokevirtual 98, 3)), (92, (.ireturn, 1)), (93, (.aload_n 3, 1)), (94, (.getfield 55, 3)), (97, (.ireturn, 1)), (98, (.iconst (-1), 1)), (99, (.ireturn, 1))]
def fX1_tellCall : List (Nat × (Nat × Nat)) := [(33, (1, 2)), (20, (1, 1)), (85, (0, 1)), (88, (0, 3)), (91, (0, 4)), (95, (0, 5)), (55, (0, 7))]
def qX1_tellCall : List (Nat × (Int32 ⊕ Int64)) := []
noncomputable def lX1_tellCall : List (Nat × (Nat × (Option Nat × pFN))) := [(98, (1, (some 0, kX0_countWritten)))]
noncomputable def kX1_tellCall : pFN := pm_met shX (some 1) tX1_tellCall fX1_tellCall qX1_tellCall lX1_tellCall 4 1
def mX1_tellCall : Room := { frames := 2, cells := 0, slots := 0, locals := 40 }
set_option maxRecDepth 100000 in
theorem tX1_tellCall_ok : ∀ q ∈ tX1_tellCall, decode cX1_tellCall q.1 = .ok q.2 ∧ pm_tok q.1 q.2.1 q.2.2 = true := by decide +kernel
set_option maxRecDepth 100000 in
theorem fX1_tellCall_ok : ∀ q ∈ fX1_tellCall, pm_Fok wsX1_tellCall yX1_tellCall.cls q.1 q.2.1 q.2.2 := List.forall_mem_cons.mpr ⟨⟨(RX1, TX1, 3), rfl, by decide, by decide +kernel, fun w h => List.mem_cons_of_mem _ (List.mem_append_left _ (List.mem_append_right _ h))⟩, List.forall_mem_cons.mpr ⟨⟨(RX1, TX1, 3), rfl, by decide, by decide +kernel, fun w h => List.mem_cons_of_mem _ (List.mem_append_left _ (List.mem_append_right _ h))⟩, List.forall_mem_cons.mpr ⟨⟨(RX0, TX0, 18), rfl, by decide, by decide +kernel, fun w h => List.mem_cons_of_mem _ (List.mem_append_right _ h)⟩, List.forall_mem_cons.mpr ⟨⟨(RX0, TX0, 18), rfl, by decide, by decide +kernel, fun w h => List.mem_cons_of_mem _ (List.mem_append_right _ h)⟩, List.forall_mem_cons.mpr ⟨⟨(RX0, TX0, 18), rfl, by decide, by decide +kernel, fun w h => List.mem_cons_of_mem _ (List.mem_append_right _ h)⟩, List.forall_mem_cons.mpr ⟨⟨(RX0, TX0, 18), rfl, by decide, by decide +kernel, fun w h => List.mem_cons_of_mem _ (List.mem_append_right _ h)⟩, List.forall_mem_cons.mpr ⟨⟨(RX0, TX0, 18), rfl, by decide, by decide +kernel, fun w h => List.mem_cons_of_mem _ (List.mem_append_right _ h)⟩, fun _ h => absurd h List.not_mem_nil⟩⟩⟩⟩⟩⟩⟩
set_option maxRecDepth 100000 in
theorem qX1_tellCall_ok : ∀ q ∈ qX1_tellCall, pm_Kok wsX1_tellCall yX1_tellCall.cls q.1 q.2 := fun _ h => absurd h List.not_mem_nil
set_option maxRecDepth 100000 in
theorem conX1_tellCall (l : Launch) : pm_Con l yX1_tellCall wsX1_tellCall mX1_tellCall shX 288 kX1_tellCall := pm_met_con (cc := cX1_tellCall) (by decide +kernel) rfl shX_N tX1_tellCall_ok fX1_tellCall_ok qX1_tellCall_ok (List.forall_mem_cons.mpr ⟨⟨yX0_countWritten, wsX0_countWritten, _, mX0_countWritten, cX0_countWritten, 1, pm_rt 1, (RX0, TX0, 18), conX0_countWritten l, pm_met_recv, rfl, gX1_tellCall_X0_countWritten, rfl, rfl, rfl, by decide +kernel, by decide⟩, fun _ h => absurd h List.not_mem_nil⟩)

def tX2_addCall : List (Nat × (Instr × Nat)) := [(0, (.aload_n 0, 1)), (1, (.getfield 28, 3)), (4, (.bipush 16, 2)), (6, (.if_icmp .lt 5, 3)), (9, (.iconst (-1), 1)), (10, (.ireturn, 1)), (11, (.aload_n 0, 1)), (12, (.getfield 9, 3)), (15, (.aload_n 0, 1)), (16, (.getfield 28, 3)), (19, (.iconst 0, 1)), (20, (.iastore, 1)), (21, (.aload_n 0, 1)), (22, (.dup, 1)), (23, (.getfield 28, 3)), (26, (.iconst 1, 1)), (27, (.iadd, 1)), (28, (.putfield 28, 3)), (31, (.aload_n 0, 1)), (32, (.getfield 28, 3)), (35, (.iconst 1, 1)), (36, (.isub, 1)), (37, (.ireturn, 1))]
def fX2_addCall : List (Nat × (Nat × Nat)) := [(28, (2, 0)), (9, (2, 1))]
def qX2_addCall : List (Nat × (Int32 ⊕ Int64)) := []
noncomputable def lX2_addCall : List (Nat × (Nat × (Option Nat × pFN))) := []
noncomputable def kX2_addCall : pFN := pm_met shX (some 2) tX2_addCall fX2_addCall qX2_addCall lX2_addCall 1 1
def mX2_addCall : Room := { frames := 0, cells := 0, slots := 0, locals := 0 }
set_option maxRecDepth 100000 in
theorem tX2_addCall_ok : ∀ q ∈ tX2_addCall, decode cX2_addCall q.1 = .ok q.2 ∧ pm_tok q.1 q.2.1 q.2.2 = true := by decide +kernel
set_option maxRecDepth 100000 in
theorem fX2_addCall_ok : ∀ q ∈ fX2_addCall, pm_Fok wsX2_addCall yX2_addCall.cls q.1 q.2.1 q.2.2 := List.forall_mem_cons.mpr ⟨⟨(RX2, TX2, 6), rfl, by decide, by decide +kernel, fun w h => List.mem_cons_of_mem _ (List.mem_append_right _ h)⟩, List.forall_mem_cons.mpr ⟨⟨(RX2, TX2, 6), rfl, by decide, by decide +kernel, fun w h => List.mem_cons_of_mem _ (List.mem_append_right _ h)⟩, fun _ h => absurd h List.not_mem_nil⟩⟩
set_option maxRecDepth 100000 in
theorem qX2_addCall_ok : ∀ q ∈ qX2_addCall, pm_Kok wsX2_addCall yX2_addCall.cls q.1 q.2 := fun _ h => absurd h List.not_mem_nil
set_option maxRecDepth 100000 in
theorem conX2_addCall (l : Launch) : pm_Con l yX2_addCall wsX2_addCall mX2_addCall shX 288 kX2_addCall := pm_met_con (cc := cX2_addCall) (by decide +kernel) rfl shX_N tX2_addCall_ok fX2_addCall_ok qX2_addCall_ok (fun _ h => absurd h List.not_mem_nil)

def tX2_addAct : List (Nat × (Instr × Nat)) := [(0, (.iload_n 1, 1)), (1, (.ifCond .lt 22, 3)), (4, (.iload_n 1, 1)), (5, (.aload_n 0, 1)), (6, (.getfield 28, 3)), (9, (.if_icmp .ge 14, 3)), (12, (.aload_n 0, 1)), (13, (.getfield 9, 3)), (16, (.iload_n 1, 1)), (17, (.iaload, 1)), (18, (.bipush 12, 2)), (20, (.if_icmp .lt 5, 3)), (23, (.iconst (-1), 1)), (24, (.ireturn, 1)), (25, (.iload_n 1, 1)), (26, (.bipush 12, 2)), (28, (.imul, 1)), (29, (.aload_n 0, 1)), (30, (.getfield 9, 3)), (33, (.iload_n 1, 1)), (34, (.iaload, 1)), (35, (.iadd, 1)), (36, (.istore 7, 2)), (38, (.aload_n 0, 1)), (39, (.getfield 15, 3)), (42, (.iload 7, 2)), (44, (.iload_n 2, 1)), (45, (.iastore, 1)), (46, (.aload_n 0, 1)), (47, (.getfield 18, 3)), (50, (.iload 7, 2)), (52, (.iload_n 3, 1)), (53, (.iastore, 1)), (54, (.aload_n 0, 1)), (55, (.getfield 21, 3)), (58, (.iload 7, 2)), (60, (.iload 4, 2)), (62, (.iastore, 1)), (63, (.aload_n 0, 1)), (64, (.getfield 24, 3)), (67, (.iload 7, 2)), (69, (.lload 5, 2)), (71, (.lastore, 1)), (72, (.aload_n 0, 1)), (73, (.getfield 9, 3)), (76, (.iload_n 1, 1)), (77, (.dup2, 1)), (78, (.iaload, 1)), (79, (.iconst 1, 1)), (80, (.iadd, 1)), (81, (.iastore, 1)), (82, (.aload_n 0, 1)), (83, (.getfield 9, 3)), (86, (.iload_n 1, 1)), (87, (.iaload, 1)), (88, (.ireturn, 1))]
def fX2_addAct : List (Nat × (Nat × Nat)) := [(28, (2, 0)), (9, (2, 1)), (15, (2, 2)), (18, (2, 3)), (21, (2, 4)), (24, (2, 5))]
def qX2_addAct : List (Nat × (Int32 ⊕ Int64)) := []
noncomputable def lX2_addAct : List (Nat × (Nat × (Option Nat × pFN))) := []
noncomputable def kX2_addAct : pFN := pm_met shX (some 2) tX2_addAct fX2_addAct qX2_addAct lX2_addAct 8 1
def mX2_addAct : Room := { frames := 0, cells := 0, slots := 0, locals := 0 }
set_option maxRecDepth 100000 in
theorem tX2_addAct_ok : ∀ q ∈ tX2_addAct, decode cX2_addAct q.1 = .ok q.2 ∧ pm_tok q.1 q.2.1 q.2.2 = true := by decide +kernel
set_option maxRecDepth 100000 in
theorem fX2_addAct_ok : ∀ q ∈ fX2_addAct, pm_Fok wsX2_addAct yX2_addAct.cls q.1 q.2.1 q.2.2 := List.forall_mem_cons.mpr ⟨⟨(RX2, TX2, 6), rfl, by decide, by decide +kernel, fun w h => List.mem_cons_of_mem _ (List.mem_append_right _ h)⟩, List.forall_mem_cons.mpr ⟨⟨(RX2, TX2, 6), rfl, by decide, by decide +kernel, fun w h => List.mem_cons_of_mem _ (List.mem_append_right _ h)⟩, List.forall_mem_cons.mpr ⟨⟨(RX2, TX2, 6), rfl, by decide, by decide +kernel, fun w h => List.mem_cons_of_mem _ (List.mem_append_right _ h)⟩, List.forall_mem_cons.mpr ⟨⟨(RX2, TX2, 6), rfl, by decide, by decide +kernel, fun w h => List.mem_cons_of_mem _ (List.mem_append_right _ h)⟩, List.forall_mem_cons.mpr ⟨⟨(RX2, TX2, 6), rfl, by decide, by decide +kernel, fun w h => List.mem_cons_of_mem _ (List.mem_append_right _ h)⟩, List.forall_mem_cons.mpr ⟨⟨(RX2, TX2, 6), rfl, by decide, by decide +kernel, fun w h => List.mem_cons_of_mem _ (List.mem_append_right _ h)⟩, fun _ h => absurd h List.not_mem_nil⟩⟩⟩⟩⟩⟩
set_option maxRecDepth 100000 in
theorem qX2_addAct_ok : ∀ q ∈ qX2_addAct, pm_Kok wsX2_addAct yX2_addAct.cls q.1 q.2 := fun _ h => absurd h List.not_mem_nil
set_option maxRecDepth 100000 in
theorem conX2_addAct (l : Launch) : pm_Con l yX2_addAct wsX2_addAct mX2_addAct shX 288 kX2_addAct := pm_met_con (cc := cX2_addAct) (by decide +kernel) rfl shX_N tX2_addAct_ok fX2_addAct_ok qX2_addAct_ok (fun _ h => absurd h List.not_mem_nil)

def tX2_dropCalls : List (Nat × (Instr × Nat)) := [(0, (.aload_n 0, 1)), (1, (.getfield 28, 3)), (4, (.istore_n 1, 1)), (5, (.aload_n 0, 1)), (6, (.iconst 0, 1)), (7, (.putfield 28, 3)), (10, (.iload_n 1, 1)), (11, (.ireturn, 1))]
def fX2_dropCalls : List (Nat × (Nat × Nat)) := [(28, (2, 0))]
def qX2_dropCalls : List (Nat × (Int32 ⊕ Int64)) := []
noncomputable def lX2_dropCalls : List (Nat × (Nat × (Option Nat × pFN))) := []
noncomputable def kX2_dropCalls : pFN := pm_met shX (some 2) tX2_dropCalls fX2_dropCalls qX2_dropCalls lX2_dropCalls 2 1
def mX2_dropCalls : Room := { frames := 0, cells := 0, slots := 0, locals := 0 }
set_option maxRecDepth 100000 in
theorem tX2_dropCalls_ok : ∀ q ∈ tX2_dropCalls, decode cX2_dropCalls q.1 = .ok q.2 ∧ pm_tok q.1 q.2.1 q.2.2 = true := by decide +kernel
set_option maxRecDepth 100000 in
theorem fX2_dropCalls_ok : ∀ q ∈ fX2_dropCalls, pm_Fok wsX2_dropCalls yX2_dropCalls.cls q.1 q.2.1 q.2.2 := List.forall_mem_cons.mpr ⟨⟨(RX2, TX2, 6), rfl, by decide, by decide +kernel, fun w h => List.mem_cons_of_mem _ (List.mem_append_right _ h)⟩, fun _ h => absurd h List.not_mem_nil⟩
set_option maxRecDepth 100000 in
theorem qX2_dropCalls_ok : ∀ q ∈ qX2_dropCalls, pm_Kok wsX2_dropCalls yX2_dropCalls.cls q.1 q.2 := fun _ h => absurd h List.not_mem_nil
set_option maxRecDepth 100000 in
theorem conX2_dropCalls (l : Launch) : pm_Con l yX2_dropCalls wsX2_dropCalls mX2_dropCalls shX 288 kX2_dropCalls := pm_met_con (cc := cX2_dropCalls) (by decide +kernel) rfl shX_N tX2_dropCalls_ok fX2_dropCalls_ok qX2_dropCalls_ok (fun _ h => absurd h List.not_mem_nil)

def tX3_note : List (Nat × (Instr × Nat)) := [(0, (.aload_n 0, 1)), (1, (.getfield 16, 3)), (4, (.sipush 200, 3)), (7, (.if_icmp .ge 23, 3)), (10, (.aload_n 0, 1)), (11, (.getfield 9, 3)), (14, (.aload_n 0, 1)), (15, (.getfield 16, 3)), (18, (.iload_n 1, 1)), (19, (.iastore, 1)), (20, (.aload_n 0, 1)), (21, (.getfield 13, 3)), (24, (.aload_n 0, 1)), (25, (.getfield 16, 3)), (28, (.iload_n 2, 1)), (29, (.iastore, 1)), (30, (.aload_n 0, 1)), (31, (.dup, 1)), (32, (.getfield 16, 3)), (35, (.iconst 1, 1)), (36, (.iadd, 1)), (37, (.putfield 16, 3)), (40, (.return_, 1))]
def fX3_note : List (Nat × (Nat × Nat)) := [(16, (3, 0)), (9, (3, 1)), (13, (3, 2))]
def qX3_note : List (Nat × (Int32 ⊕ Int64)) := []
noncomputable def lX3_note : List (Nat × (Nat × (Option Nat × pFN))) := []
noncomputable def kX3_note : pFN := pm_met shX (some 3) tX3_note fX3_note qX3_note lX3_note 3 0
def mX3_note : Room := { frames := 0, cells := 0, slots := 0, locals := 0 }
set_option maxRecDepth 100000 in
theorem tX3_note_ok : ∀ q ∈ tX3_note, decode cX3_note q.1 = .ok q.2 ∧ pm_tok q.1 q.2.1 q.2.2 = true := by decide +kernel
set_option maxRecDepth 100000 in
theorem fX3_note_ok : ∀ q ∈ fX3_note, pm_Fok wsX3_note yX3_note.cls q.1 q.2.1 q.2.2 := List.forall_mem_cons.mpr ⟨⟨(RX3, TX3, 3), rfl, by decide, by decide +kernel, fun w h => List.mem_cons_of_mem _ (List.mem_append_right _ h)⟩, List.forall_mem_cons.mpr ⟨⟨(RX3, TX3, 3), rfl, by decide, by decide +kernel, fun w h => List.mem_cons_of_mem _ (List.mem_append_right _ h)⟩, List.forall_mem_cons.mpr ⟨⟨(RX3, TX3, 3), rfl, by decide, by decide +kernel, fun w h => List.mem_cons_of_mem _ (List.mem_append_right _ h)⟩, fun _ h => absurd h List.not_mem_nil⟩⟩⟩
set_option maxRecDepth 100000 in
theorem qX3_note_ok : ∀ q ∈ qX3_note, pm_Kok wsX3_note yX3_note.cls q.1 q.2 := fun _ h => absurd h List.not_mem_nil
set_option maxRecDepth 100000 in
theorem conX3_note (l : Launch) : pm_Con l yX3_note wsX3_note mX3_note shX 288 kX3_note := pm_met_con (cc := cX3_note) (by decide +kernel) rfl shX_N tX3_note_ok fX3_note_ok qX3_note_ok (fun _ h => absurd h List.not_mem_nil)

def tX3_tell : List (Nat × (Instr × Nat)) := [(0, (.iload_n 1, 1)), (1, (.ifCond .lt 27, 3)), (4, (.iload_n 1, 1)), (5, (.aload_n 0, 1)), (6, (.getfield 16, 3)), (9, (.if_icmp .ge 19, 3)), (12, (.iload_n 1, 1)), (13, (.sipush 200, 3)), (16, (.if_icmp .ge 12, 3)), (19, (.iload_n 2, 1)), (20, (.ifCond .lt 8, 3)), (23, (.iload_n 2, 1)), (24, (.iconst 1, 1)), (25, (.if_icmp .le 6, 3)), (28, (.bipush (-2), 2)), (30, (.ireturn, 1)), (31, (.iload_n 2, 1)), (32, (.ifCond .ne 12, 3)), (35, (.aload_n 0, 1)), (36, (.getfield 9, 3)), (39, (.iload_n 1, 1)), (40, (.iaload, 1)), (41, (.goto 9, 3)), (44, (.aload_n 0, 1)), (45, (.getfield 13, 3)), (48, (.iload_n 1, 1)), (49, (.iaload, 1)), (50, (.ireturn, 1))]
def fX3_tell : List (Nat × (Nat × Nat)) := [(16, (3, 0)), (9, (3, 1)), (13, (3, 2))]
def qX3_tell : List (Nat × (Int32 ⊕ Int64)) := []
noncomputable def lX3_tell : List (Nat × (Nat × (Option Nat × pFN))) := []
noncomputable def kX3_tell : pFN := pm_met shX (some 3) tX3_tell fX3_tell qX3_tell lX3_tell 3 1
def mX3_tell : Room := { frames := 0, cells := 0, slots := 0, locals := 0 }
set_option maxRecDepth 100000 in
theorem tX3_tell_ok : ∀ q ∈ tX3_tell, decode cX3_tell q.1 = .ok q.2 ∧ pm_tok q.1 q.2.1 q.2.2 = true := by decide +kernel
set_option maxRecDepth 100000 in
theorem fX3_tell_ok : ∀ q ∈ fX3_tell, pm_Fok wsX3_tell yX3_tell.cls q.1 q.2.1 q.2.2 := List.forall_mem_cons.mpr ⟨⟨(RX3, TX3, 3), rfl, by decide, by decide +kernel, fun w h => List.mem_cons_of_mem _ (List.mem_append_right _ h)⟩, List.forall_mem_cons.mpr ⟨⟨(RX3, TX3, 3), rfl, by decide, by decide +kernel, fun w h => List.mem_cons_of_mem _ (List.mem_append_right _ h)⟩, List.forall_mem_cons.mpr ⟨⟨(RX3, TX3, 3), rfl, by decide, by decide +kernel, fun w h => List.mem_cons_of_mem _ (List.mem_append_right _ h)⟩, fun _ h => absurd h List.not_mem_nil⟩⟩⟩
set_option maxRecDepth 100000 in
theorem qX3_tell_ok : ∀ q ∈ qX3_tell, pm_Kok wsX3_tell yX3_tell.cls q.1 q.2 := fun _ h => absurd h List.not_mem_nil
set_option maxRecDepth 100000 in
theorem conX3_tell (l : Launch) : pm_Con l yX3_tell wsX3_tell mX3_tell shX 288 kX3_tell := pm_met_con (cc := cX3_tell) (by decide +kernel) rfl shX_N tX3_tell_ok fX3_tell_ok qX3_tell_ok (fun _ h => absurd h List.not_mem_nil)

def tX4_isRegister : List (Nat × (Instr × Nat)) := [(0, (.iload_n 0, 1)), (1, (.ifCond .lt 12, 3)), (4, (.iload_n 0, 1)), (5, (.iconst 4, 1)), (6, (.if_icmp .ge 7, 3)), (9, (.iconst 1, 1)), (10, (.goto 4, 3)), (13, (.iconst 0, 1)), (14, (.ireturn, 1))]
def fX4_isRegister : List (Nat × (Nat × Nat)) := []
def qX4_isRegister : List (Nat × (Int32 ⊕ Int64)) := []
noncomputable def lX4_isRegister : List (Nat × (Nat × (Option Nat × pFN))) := []
noncomputable def kX4_isRegister : pFN := pm_met shX (none) tX4_isRegister fX4_isRegister qX4_isRegister lX4_isRegister 1 2
def mX4_isRegister : Room := { frames := 0, cells := 0, slots := 0, locals := 0 }
set_option maxRecDepth 100000 in
theorem tX4_isRegister_ok : ∀ q ∈ tX4_isRegister, decode cX4_isRegister q.1 = .ok q.2 ∧ pm_tok q.1 q.2.1 q.2.2 = true := by decide +kernel
set_option maxRecDepth 100000 in
theorem fX4_isRegister_ok : ∀ q ∈ fX4_isRegister, pm_Fok wsX4_isRegister yX4_isRegister.cls q.1 q.2.1 q.2.2 := fun _ h => absurd h List.not_mem_nil
set_option maxRecDepth 100000 in
theorem qX4_isRegister_ok : ∀ q ∈ qX4_isRegister, pm_Kok wsX4_isRegister yX4_isRegister.cls q.1 q.2 := fun _ h => absurd h List.not_mem_nil
set_option maxRecDepth 100000 in
theorem conX4_isRegister (l : Launch) : pm_Con l yX4_isRegister wsX4_isRegister mX4_isRegister shX 288 kX4_isRegister := pm_met_con (cc := cX4_isRegister) (by decide +kernel) rfl shX_N tX4_isRegister_ok fX4_isRegister_ok qX4_isRegister_ok (fun _ h => absurd h List.not_mem_nil)

def tX4_hasSecond : List (Nat × (Instr × Nat)) := [(0, (.iload_n 0, 1)), (1, (.iconst 1, 1)), (2, (.if_icmp .lt 13, 3)), (5, (.iload_n 0, 1)), (6, (.bipush 6, 2)), (8, (.if_icmp .gt 7, 3)), (11, (.iconst 1, 1)), (12, (.goto 4, 3)), (15, (.iconst 0, 1)), (16, (.ireturn, 1))]
def fX4_hasSecond : List (Nat × (Nat × Nat)) := []
def qX4_hasSecond : List (Nat × (Int32 ⊕ Int64)) := []
noncomputable def lX4_hasSecond : List (Nat × (Nat × (Option Nat × pFN))) := []
noncomputable def kX4_hasSecond : pFN := pm_met shX (none) tX4_hasSecond fX4_hasSecond qX4_hasSecond lX4_hasSecond 1 2
def mX4_hasSecond : Room := { frames := 0, cells := 0, slots := 0, locals := 0 }
set_option maxRecDepth 100000 in
theorem tX4_hasSecond_ok : ∀ q ∈ tX4_hasSecond, decode cX4_hasSecond q.1 = .ok q.2 ∧ pm_tok q.1 q.2.1 q.2.2 = true := by decide +kernel
set_option maxRecDepth 100000 in
theorem fX4_hasSecond_ok : ∀ q ∈ fX4_hasSecond, pm_Fok wsX4_hasSecond yX4_hasSecond.cls q.1 q.2.1 q.2.2 := fun _ h => absurd h List.not_mem_nil
set_option maxRecDepth 100000 in
theorem qX4_hasSecond_ok : ∀ q ∈ qX4_hasSecond, pm_Kok wsX4_hasSecond yX4_hasSecond.cls q.1 q.2 := fun _ h => absurd h List.not_mem_nil
set_option maxRecDepth 100000 in
theorem conX4_hasSecond (l : Launch) : pm_Con l yX4_hasSecond wsX4_hasSecond mX4_hasSecond shX 288 kX4_hasSecond := pm_met_con (cc := cX4_hasSecond) (by decide +kernel) rfl shX_N tX4_hasSecond_ok fX4_hasSecond_ok qX4_hasSecond_ok (fun _ h => absurd h List.not_mem_nil)
