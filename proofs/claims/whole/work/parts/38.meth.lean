def tX8_conflicts : List (Nat × (Instr × Nat)) := [(0, (.aload_n 0, 1)), (1, (.getfield 177, 3)), (4, (.ireturn, 1))]
def fX8_conflicts : List (Nat × (Nat × Nat)) := [(177, (7, 47))]
def qX8_conflicts : List (Nat × (Int32 ⊕ Int64)) := []
noncomputable def lX8_conflicts : List (Nat × (Nat × (Option Nat × pFN))) := []
noncomputable def kX8_conflicts : pFN := pm_met shM (some 7) tX8_conflicts fX8_conflicts qX8_conflicts lX8_conflicts 1 1
def mX8_conflicts : Room := { frames := 0, cells := 0, slots := 0, locals := 0 }
set_option maxRecDepth 100000 in
theorem tX8_conflicts_ok : ∀ q ∈ tX8_conflicts, decode cX8_conflicts q.1 = .ok q.2 ∧ pm_tok q.1 q.2.1 q.2.2 = true := by decide +kernel
set_option maxRecDepth 100000 in
theorem fX8_conflicts_ok : ∀ q ∈ fX8_conflicts, pm_Fok wsX8_conflicts yX8_conflicts.cls q.1 q.2.1 q.2.2 := List.forall_mem_cons.mpr ⟨⟨(RX8, TX8, 61), rfl, by decide, by decide +kernel, fun w h => List.mem_cons_of_mem _ (List.mem_append_right _ h)⟩, fun _ h => absurd h List.not_mem_nil⟩
set_option maxRecDepth 100000 in
theorem qX8_conflicts_ok : ∀ q ∈ qX8_conflicts, pm_Kok wsX8_conflicts yX8_conflicts.cls q.1 q.2 := fun _ h => absurd h List.not_mem_nil
set_option maxRecDepth 100000 in
theorem conX8_conflicts (l : Launch) : pm_Con l yX8_conflicts wsX8_conflicts mX8_conflicts shM 44 kX8_conflicts := pm_met_con (cc := cX8_conflicts) (by decide +kernel) rfl shM_N tX8_conflicts_ok fX8_conflicts_ok qX8_conflicts_ok (fun _ h => absurd h List.not_mem_nil)

def tX8_conflict : List (Nat × (Instr × Nat)) := [(0, (.iload_n 1, 1)), (1, (.ifCond .lt 27, 3)), (4, (.iload_n 1, 1)), (5, (.aload_n 0, 1)), (6, (.getfield 177, 3)), (9, (.if_icmp .ge 19, 3)), (12, (.iload_n 1, 1)), (13, (.sipush 200, 3)), (16, (.if_icmp .ge 12, 3)), (19, (.iload_n 2, 1)), (20, (.ifCond .lt 8, 3)), (23, (.iload_n 2, 1)), (24, (.iconst 1, 1)), (25, (.if_icmp .le 6, 3)), (28, (.bipush (-2), 2)), (30, (.ireturn, 1)), (31, (.iload_n 2, 1)), (32, (.ifCond .ne 12, 3)), (35, (.aload_n 0, 1)), (36, (.getfield 105, 3)), (39, (.iload_n 1, 1)), (40, (.iaload, 1)), (41, (.goto 9, 3)), (44, (.aload_n 0, 1)), (45, (.getfield 108, 3)), (48, (.iload_n 1, 1)), (49, (.iaload, 1)), (50, (.ireturn, 1))]
def fX8_conflict : List (Nat × (Nat × Nat)) := [(177, (7, 47)), (105, (7, 48)), (108, (7, 49))]
def qX8_conflict : List (Nat × (Int32 ⊕ Int64)) := []
noncomputable def lX8_conflict : List (Nat × (Nat × (Option Nat × pFN))) := []
noncomputable def kX8_conflict : pFN := pm_met shM (some 7) tX8_conflict fX8_conflict qX8_conflict lX8_conflict 3 1
def mX8_conflict : Room := { frames := 0, cells := 0, slots := 0, locals := 0 }
set_option maxRecDepth 100000 in
theorem tX8_conflict_ok : ∀ q ∈ tX8_conflict, decode cX8_conflict q.1 = .ok q.2 ∧ pm_tok q.1 q.2.1 q.2.2 = true := by decide +kernel
set_option maxRecDepth 100000 in
theorem fX8_conflict_ok : ∀ q ∈ fX8_conflict, pm_Fok wsX8_conflict yX8_conflict.cls q.1 q.2.1 q.2.2 := List.forall_mem_cons.mpr ⟨⟨(RX8, TX8, 61), rfl, by decide, by decide +kernel, fun w h => List.mem_cons_of_mem _ (List.mem_append_right _ h)⟩, List.forall_mem_cons.mpr ⟨⟨(RX8, TX8, 61), rfl, by decide, by decide +kernel, fun w h => List.mem_cons_of_mem _ (List.mem_append_right _ h)⟩, List.forall_mem_cons.mpr ⟨⟨(RX8, TX8, 61), rfl, by decide, by decide +kernel, fun w h => List.mem_cons_of_mem _ (List.mem_append_right _ h)⟩, fun _ h => absurd h List.not_mem_nil⟩⟩⟩
set_option maxRecDepth 100000 in
theorem qX8_conflict_ok : ∀ q ∈ qX8_conflict, pm_Kok wsX8_conflict yX8_conflict.cls q.1 q.2 := fun _ h => absurd h List.not_mem_nil
set_option maxRecDepth 100000 in
theorem conX8_conflict (l : Launch) : pm_Con l yX8_conflict wsX8_conflict mX8_conflict shM 44 kX8_conflict := pm_met_con (cc := cX8_conflict) (by decide +kernel) rfl shM_N tX8_conflict_ok fX8_conflict_ok qX8_conflict_ok (fun _ h => absurd h List.not_mem_nil)

def tX8_told : List (Nat × (Instr × Nat)) := [(0, (.iload_n 1, 1)), (1, (.tableswitch 95 0 7 #[47, 52, 65, 70, 75, 80, 85, 90], 47)), (48, (.aload_n 0, 1)), (49, (.getfield 183, 3)), (52, (.ireturn, 1)), (53, (.aload_n 0, 1)), (54, (.getfield 186, 3)), (57, (.ifCond .eq 7, 3)), (60, (.iconst 1, 1)), (61, (.goto 4, 3)), (64, (.iconst 0, 1)), (65, (.ireturn, 1)), (66, (.aload_n 0, 1)), (67, (.getfield 189, 3)), (70, (.ireturn, 1)), (71, (.aload_n 0, 1)), (72, (.getfield 192, 3)), (75, (.ireturn, 1)), (76, (.aload_n 0, 1)), (77, (.getfield 195, 3)), (80, (.ireturn, 1)), (81, (.aload_n 0, 1)), (82, (.getfield 174, 3)), (85, (.ireturn, 1)), (86, (.aload_n 0, 1)), (87, (.getfield 257, 3)), (90, (.ireturn, 1)), (91, (.aload_n 0, 1)), (92, (.getfield 180, 3)), (95, (.ireturn, 1)), (96, (.iconst (-1), 1)), (97, (.ireturn, 1))]
def fX8_told : List (Nat × (Nat × Nat)) := [(183, (7, 40)), (186, (7, 41)), (189, (7, 42)), (192, (7, 43)), (195, (7, 44)), (174, (7, 22)), (257, (7, 45)), (180, (7, 39))]
def qX8_told : List (Nat × (Int32 ⊕ Int64)) := []
noncomputable def lX8_told : List (Nat × (Nat × (Option Nat × pFN))) := []
noncomputable def kX8_told : pFN := pm_met shM (some 7) tX8_told fX8_told qX8_told lX8_told 2 1
def mX8_told : Room := { frames := 0, cells := 0, slots := 0, locals := 0 }
set_option maxRecDepth 100000 in
theorem tX8_told_ok : ∀ q ∈ tX8_told, decode cX8_told q.1 = .ok q.2 ∧ pm_tok q.1 q.2.1 q.2.2 = true := by decide +kernel
set_option maxRecDepth 100000 in
theorem fX8_told_ok : ∀ q ∈ fX8_told, pm_Fok wsX8_told yX8_told.cls q.1 q.2.1 q.2.2 := List.forall_mem_cons.mpr ⟨⟨(RX8, TX8, 61), rfl, by decide, by decide +kernel, fun w h => List.mem_cons_of_mem _ (List.mem_append_right _ h)⟩, List.forall_mem_cons.mpr ⟨⟨(RX8, TX8, 61), rfl, by decide, by decide +kernel, fun w h => List.mem_cons_of_mem _ (List.mem_append_right _ h)⟩, List.forall_mem_cons.mpr ⟨⟨(RX8, TX8, 61), rfl, by decide, by decide +kernel, fun w h => List.mem_cons_of_mem _ (List.mem_append_right _ h)⟩, List.forall_mem_cons.mpr ⟨⟨(RX8, TX8, 61), rfl, by decide, by decide +kernel, fun w h => List.mem_cons_of_mem _ (List.mem_append_right _ h)⟩, List.forall_mem_cons.mpr ⟨⟨(RX8, TX8, 61), rfl, by decide, by decide +kernel, fun w h => List.mem_cons_of_mem _ (List.mem_append_right _ h)⟩, List.forall_mem_cons.mpr ⟨⟨(RX8, TX8, 61), rfl, by decide, by decide +kernel, fun w h => List.mem_cons_of_mem _ (List.mem_append_right _ h)⟩, List.forall_mem_cons.mpr ⟨⟨(RX8, TX8, 61), rfl, by decide, by decide +kernel, fun w h => List.mem_cons_of_mem _ (List.mem_append_right _ h)⟩, List.forall_mem_cons.mpr ⟨⟨(RX8, TX8, 61), rfl, by decide, by decide +kernel, fun w h => List.mem_cons_of_mem _ (List.mem_append_right _ h)⟩, fun _ h => absurd h List.not_mem_nil⟩⟩⟩⟩⟩⟩⟩⟩
set_option maxRecDepth 100000 in
theorem qX8_told_ok : ∀ q ∈ qX8_told, pm_Kok wsX8_told yX8_told.cls q.1 q.2 := fun _ h => absurd h List.not_mem_nil
set_option maxRecDepth 100000 in
theorem conX8_told (l : Launch) : pm_Con l yX8_told wsX8_told mX8_told shM 44 kX8_told := pm_met_con (cc := cX8_told) (by decide +kernel) rfl shM_N tX8_told_ok fX8_told_ok qX8_told_ok (fun _ h => absurd h List.not_mem_nil)
