def tX7_event : List (Nat × (Instr × Nat)) := [(0, (.aload_n 0, 1)), (1, (.getfield 23, 3)), (4, (.getfield 67, 3)), (7, (.iload_n 1, 1)), (8, (.iload_n 2, 1)), (9, (.invokevirtual 93, 3)), (12, (.lreturn, 1))]
def fX7_event : List (Nat × (Nat × Nat)) := [(23, (6, 2)), (67, (5, 0))]
def qX7_event : List (Nat × (Int32 ⊕ Int64)) := []
noncomputable def lX7_event : List (Nat × (Nat × (Option Nat × pFN))) := [(93, (3, (some 1, kX1_tellEvent)))]
noncomputable def kX7_event : pFN := pm_met shX (some 6) tX7_event fX7_event qX7_event lX7_event 3 3
def mX7_event : Room := { frames := 1, cells := 0, slots := 0, locals := 25 }
set_option maxRecDepth 100000 in
theorem tX7_event_ok : ∀ q ∈ tX7_event, decode cX7_event q.1 = .ok q.2 ∧ pm_tok q.1 q.2.1 q.2.2 = true := by decide +kernel
set_option maxRecDepth 100000 in
theorem fX7_event_ok : ∀ q ∈ fX7_event, pm_Fok wsX7_event yX7_event.cls q.1 q.2.1 q.2.2 := List.forall_mem_cons.mpr ⟨⟨(RX7, TX7, 5), rfl, by decide, by decide +kernel, fun w h => List.mem_cons_of_mem _ (List.mem_append_left _ (List.mem_append_left _ (List.mem_append_left _ (List.mem_append_right _ h))))⟩, List.forall_mem_cons.mpr ⟨⟨(RX6, TX6, 17), rfl, by decide, by decide +kernel, fun w h => List.mem_cons_of_mem _ (List.mem_append_left _ (List.mem_append_left _ (List.mem_append_right _ h)))⟩, fun _ h => absurd h List.not_mem_nil⟩⟩
set_option maxRecDepth 100000 in
theorem qX7_event_ok : ∀ q ∈ qX7_event, pm_Kok wsX7_event yX7_event.cls q.1 q.2 := fun _ h => absurd h List.not_mem_nil
set_option maxRecDepth 100000 in
theorem conX7_event (l : Launch) : pm_Con l yX7_event wsX7_event mX7_event shX 288 kX7_event := pm_met_con (cc := cX7_event) (by decide +kernel) rfl shX_N tX7_event_ok fX7_event_ok qX7_event_ok (List.forall_mem_cons.mpr ⟨⟨yX1_tellEvent, wsX1_tellEvent, _, mX1_tellEvent, cX1_tellEvent, 6, pm_rt 3, (RX1, TX1, 3), conX1_tellEvent l, pm_met_recv, rfl, gX7_event_X1_tellEvent, rfl, rfl, rfl, by decide +kernel, by decide⟩, fun _ h => absurd h List.not_mem_nil⟩)

def tX7_of : List (Nat × (Instr × Nat)) := [(0, (.aload_n 0, 1)), (1, (.getfield 23, 3)), (4, (.getfield 67, 3)), (7, (.iload_n 1, 1)), (8, (.iload_n 2, 1)), (9, (.invokevirtual 97, 3)), (12, (.ireturn, 1))]
def fX7_of : List (Nat × (Nat × Nat)) := [(23, (6, 2)), (67, (5, 0))]
def qX7_of : List (Nat × (Int32 ⊕ Int64)) := []
noncomputable def lX7_of : List (Nat × (Nat × (Option Nat × pFN))) := [(97, (3, (some 1, kX1_tellCall)))]
noncomputable def kX7_of : pFN := pm_met shX (some 6) tX7_of fX7_of qX7_of lX7_of 3 1
def mX7_of : Room := { frames := 3, cells := 0, slots := 0, locals := 63 }
set_option maxRecDepth 100000 in
theorem tX7_of_ok : ∀ q ∈ tX7_of, decode cX7_of q.1 = .ok q.2 ∧ pm_tok q.1 q.2.1 q.2.2 = true := by decide +kernel
set_option maxRecDepth 100000 in
theorem fX7_of_ok : ∀ q ∈ fX7_of, pm_Fok wsX7_of yX7_of.cls q.1 q.2.1 q.2.2 := List.forall_mem_cons.mpr ⟨⟨(RX7, TX7, 5), rfl, by decide, by decide +kernel, fun w h => List.mem_cons_of_mem _ (List.mem_append_left _ (List.mem_append_left _ (List.mem_append_left _ (List.mem_append_right _ h))))⟩, List.forall_mem_cons.mpr ⟨⟨(RX6, TX6, 17), rfl, by decide, by decide +kernel, fun w h => List.mem_cons_of_mem _ (List.mem_append_left _ (List.mem_append_left _ (List.mem_append_right _ h)))⟩, fun _ h => absurd h List.not_mem_nil⟩⟩
set_option maxRecDepth 100000 in
theorem qX7_of_ok : ∀ q ∈ qX7_of, pm_Kok wsX7_of yX7_of.cls q.1 q.2 := fun _ h => absurd h List.not_mem_nil
set_option maxRecDepth 100000 in
theorem conX7_of (l : Launch) : pm_Con l yX7_of wsX7_of mX7_of shX 288 kX7_of := pm_met_con (cc := cX7_of) (by decide +kernel) rfl shX_N tX7_of_ok fX7_of_ok qX7_of_ok (List.forall_mem_cons.mpr ⟨⟨yX1_tellCall, wsX1_tellCall, _, mX1_tellCall, cX1_tellCall, 4, pm_rt 1, (RX1, TX1, 3), conX1_tellCall l, pm_met_recv, rfl, gX7_of_X1_tellCall, rfl, rfl, rfl, by decide +kernel, by decide⟩, fun _ h => absurd h List.not_mem_nil⟩)

def tX7_conflicts : List (Nat × (Instr × Nat)) := [(0, (.aload_n 0, 1)), (1, (.getfield 23, 3)), (4, (.getfield 101, 3)), (7, (.getfield 105, 3)), (10, (.ireturn, 1))]
def fX7_conflicts : List (Nat × (Nat × Nat)) := [(23, (6, 2)), (101, (5, 1)), (105, (3, 0))]
def qX7_conflicts : List (Nat × (Int32 ⊕ Int64)) := []
noncomputable def lX7_conflicts : List (Nat × (Nat × (Option Nat × pFN))) := []
noncomputable def kX7_conflicts : pFN := pm_met shX (some 6) tX7_conflicts fX7_conflicts qX7_conflicts lX7_conflicts 1 1
def mX7_conflicts : Room := { frames := 0, cells := 0, slots := 0, locals := 0 }
set_option maxRecDepth 100000 in
theorem tX7_conflicts_ok : ∀ q ∈ tX7_conflicts, decode cX7_conflicts q.1 = .ok q.2 ∧ pm_tok q.1 q.2.1 q.2.2 = true := by decide +kernel
set_option maxRecDepth 100000 in
theorem fX7_conflicts_ok : ∀ q ∈ fX7_conflicts, pm_Fok wsX7_conflicts yX7_conflicts.cls q.1 q.2.1 q.2.2 := List.forall_mem_cons.mpr ⟨⟨(RX7, TX7, 5), rfl, by decide, by decide +kernel, fun w h => List.mem_cons_of_mem _ (List.mem_append_left _ (List.mem_append_left _ (List.mem_append_right _ h)))⟩, List.forall_mem_cons.mpr ⟨⟨(RX6, TX6, 17), rfl, by decide, by decide +kernel, fun w h => List.mem_cons_of_mem _ (List.mem_append_left _ (List.mem_append_right _ h))⟩, List.forall_mem_cons.mpr ⟨⟨(RX3, TX3, 3), rfl, by decide, by decide +kernel, fun w h => List.mem_cons_of_mem _ (List.mem_append_right _ h)⟩, fun _ h => absurd h List.not_mem_nil⟩⟩⟩
set_option maxRecDepth 100000 in
theorem qX7_conflicts_ok : ∀ q ∈ qX7_conflicts, pm_Kok wsX7_conflicts yX7_conflicts.cls q.1 q.2 := fun _ h => absurd h List.not_mem_nil
set_option maxRecDepth 100000 in
theorem conX7_conflicts (l : Launch) : pm_Con l yX7_conflicts wsX7_conflicts mX7_conflicts shX 288 kX7_conflicts := pm_met_con (cc := cX7_conflicts) (by decide +kernel) rfl shX_N tX7_conflicts_ok fX7_conflicts_ok qX7_conflicts_ok (fun _ h => absurd h List.not_mem_nil)

def tX7_conflict : List (Nat × (Instr × Nat)) := [(0, (.aload_n 0, 1)), (1, (.getfield 23, 3)), (4, (.getfield 101, 3)), (7, (.iload_n 1, 1)), (8, (.iload_n 2, 1)), (9, (.invokevirtual 110, 3)), (12, (.ireturn, 1))]
def fX7_conflict : List (Nat × (Nat × Nat)) := [(23, (6, 2)), (101, (5, 1))]
def qX7_conflict : List (Nat × (Int32 ⊕ Int64)) := []
noncomputable def lX7_conflict : List (Nat × (Nat × (Option Nat × pFN))) := [(110, (3, (some 3, kX3_tell)))]
noncomputable def kX7_conflict : pFN := pm_met shX (some 6) tX7_conflict fX7_conflict qX7_conflict lX7_conflict 3 1
def mX7_conflict : Room := { frames := 1, cells := 0, slots := 0, locals := 22 }
set_option maxRecDepth 100000 in
theorem tX7_conflict_ok : ∀ q ∈ tX7_conflict, decode cX7_conflict q.1 = .ok q.2 ∧ pm_tok q.1 q.2.1 q.2.2 = true := by decide +kernel
set_option maxRecDepth 100000 in
theorem fX7_conflict_ok : ∀ q ∈ fX7_conflict, pm_Fok wsX7_conflict yX7_conflict.cls q.1 q.2.1 q.2.2 := List.forall_mem_cons.mpr ⟨⟨(RX7, TX7, 5), rfl, by decide, by decide +kernel, fun w h => List.mem_cons_of_mem _ (List.mem_append_left _ (List.mem_append_left _ (List.mem_append_right _ h)))⟩, List.forall_mem_cons.mpr ⟨⟨(RX6, TX6, 17), rfl, by decide, by decide +kernel, fun w h => List.mem_cons_of_mem _ (List.mem_append_left _ (List.mem_append_right _ h))⟩, fun _ h => absurd h List.not_mem_nil⟩⟩
set_option maxRecDepth 100000 in
theorem qX7_conflict_ok : ∀ q ∈ qX7_conflict, pm_Kok wsX7_conflict yX7_conflict.cls q.1 q.2 := fun _ h => absurd h List.not_mem_nil
set_option maxRecDepth 100000 in
theorem conX7_conflict (l : Launch) : pm_Con l yX7_conflict wsX7_conflict mX7_conflict shX 288 kX7_conflict := pm_met_con (cc := cX7_conflict) (by decide +kernel) rfl shX_N tX7_conflict_ok fX7_conflict_ok qX7_conflict_ok (List.forall_mem_cons.mpr ⟨⟨yX3_tell, wsX3_tell, _, mX3_tell, cX3_tell, 3, pm_rt 1, (RX3, TX3, 3), conX3_tell l, pm_met_recv, rfl, gX7_conflict_X3_tell, rfl, rfl, rfl, by decide +kernel, by decide⟩, fun _ h => absurd h List.not_mem_nil⟩)

def tX7_told : List (Nat × (Instr × Nat)) := [(0, (.aload_n 0, 1)), (1, (.getfield 23, 3)), (4, (.iload_n 1, 1)), (5, (.invokevirtual 113, 3)), (8, (.ireturn, 1))]
def fX7_told : List (Nat × (Nat × Nat)) := [(23, (6, 2))]
def qX7_told : List (Nat × (Int32 ⊕ Int64)) := []
noncomputable def lX7_told : List (Nat × (Nat × (Option Nat × pFN))) := [(113, (2, (some 5, kX6_tell)))]
noncomputable def kX7_told : pFN := pm_met shX (some 6) tX7_told fX7_told qX7_told lX7_told 2 1
def mX7_told : Room := { frames := 2, cells := 0, slots := 0, locals := 43 }
set_option maxRecDepth 100000 in
theorem tX7_told_ok : ∀ q ∈ tX7_told, decode cX7_told q.1 = .ok q.2 ∧ pm_tok q.1 q.2.1 q.2.2 = true := by decide +kernel
set_option maxRecDepth 100000 in
theorem fX7_told_ok : ∀ q ∈ fX7_told, pm_Fok wsX7_told yX7_told.cls q.1 q.2.1 q.2.2 := List.forall_mem_cons.mpr ⟨⟨(RX7, TX7, 5), rfl, by decide, by decide +kernel, fun w h => List.mem_cons_of_mem _ (List.mem_append_left _ (List.mem_append_left _ (List.mem_append_left _ (List.mem_append_right _ h))))⟩, fun _ h => absurd h List.not_mem_nil⟩
set_option maxRecDepth 100000 in
theorem qX7_told_ok : ∀ q ∈ qX7_told, pm_Kok wsX7_told yX7_told.cls q.1 q.2 := fun _ h => absurd h List.not_mem_nil
set_option maxRecDepth 100000 in
theorem conX7_told (l : Launch) : pm_Con l yX7_told wsX7_told mX7_told shX 288 kX7_told := pm_met_con (cc := cX7_told) (by decide +kernel) rfl shX_N tX7_told_ok fX7_told_ok qX7_told_ok (List.forall_mem_cons.mpr ⟨⟨yX6_tell, wsX6_tell, _, mX6_tell, cX6_tell, 2, pm_rt 1, (RX6, TX6, 17), conX6_tell l, pm_met_recv, rfl, gX7_told_X6_tell, rfl, rfl, rfl, by decide +kernel, by decide⟩, fun _ h => absurd h List.not_mem_nil⟩)
