def tX0_open : List (Nat × (Instr × Nat)) := [(0, (.aload_n 0, 1)), (1, (.iconst 0, 1)), (2, (.putfield 38, 3)), (5, (.aload_n 0, 1)), (6, (.iconst 0, 1)), (7, (.putfield 41, 3)), (10, (.return_, 1))]
def fX0_open : List (Nat × (Nat × Nat)) := [(38, (0, 1)), (41, (0, 2))]
def qX0_open : List (Nat × (Int32 ⊕ Int64)) := []
noncomputable def lX0_open : List (Nat × (Nat × (Option Nat × pFN))) := []
noncomputable def kX0_open : pFN := pm_met shX (some 0) tX0_open fX0_open qX0_open lX0_open 1 0
def mX0_open : Room := { frames := 0, cells := 0, slots := 0, locals := 0 }
set_option maxRecDepth 100000 in
theorem tX0_open_ok : ∀ q ∈ tX0_open, decode cX0_open q.1 = .ok q.2 ∧ pm_tok q.1 q.2.1 q.2.2 = true := by decide +kernel
set_option maxRecDepth 100000 in
theorem fX0_open_ok : ∀ q ∈ fX0_open, pm_Fok wsX0_open yX0_open.cls q.1 q.2.1 q.2.2 := List.forall_mem_cons.mpr ⟨⟨(RX0, TX0, 18), rfl, by decide, by decide +kernel, fun w h => List.mem_cons_of_mem _ (List.mem_append_right _ h)⟩, List.forall_mem_cons.mpr ⟨⟨(RX0, TX0, 18), rfl, by decide, by decide +kernel, fun w h => List.mem_cons_of_mem _ (List.mem_append_right _ h)⟩, fun _ h => absurd h List.not_mem_nil⟩⟩
set_option maxRecDepth 100000 in
theorem qX0_open_ok : ∀ q ∈ qX0_open, pm_Kok wsX0_open yX0_open.cls q.1 q.2 := fun _ h => absurd h List.not_mem_nil
set_option maxRecDepth 100000 in
theorem conX0_open (l : Launch) : pm_Con l yX0_open wsX0_open mX0_open shX 288 kX0_open := pm_met_con (cc := cX0_open) (by decide +kernel) rfl shX_N tX0_open_ok fX0_open_ok qX0_open_ok (fun _ h => absurd h List.not_mem_nil)

def tJ7_fill_d0a16 : List (Nat × (Instr × Nat)) := [(0, (.iconst 0, 1)), (1, (.istore_n 3, 1)), (2, (.aload_n 0, 1)), (3, (.arraylength, 1)), (4, (.istore 4, 2)), (6, (.iload_n 3, 1)), (7, (.iload 4, 2)), (9, (.if_icmp .ge 13, 3)), (12, (.aload_n 0, 1)), (13, (.iload_n 3, 1)), (14, (.lload_n 1, 1)), (15, (.lastore, 1)), (16, (.iinc 3 1, 3)), (19, (.goto (-13), 3)), (22, (.return_, 1))]
def fJ7_fill_d0a16 : List (Nat × (Nat × Nat)) := []
def qJ7_fill_d0a16 : List (Nat × (Int32 ⊕ Int64)) := []
noncomputable def lJ7_fill_d0a16 : List (Nat × (Nat × (Option Nat × pFN))) := []
noncomputable def kJ7_fill_d0a16 : pFN := pm_met shX (none) tJ7_fill_d0a16 fJ7_fill_d0a16 qJ7_fill_d0a16 lJ7_fill_d0a16 5 0
def mJ7_fill_d0a16 : Room := { frames := 0, cells := 0, slots := 0, locals := 0 }
set_option maxRecDepth 100000 in
theorem tJ7_fill_d0a16_ok : ∀ q ∈ tJ7_fill_d0a16, decode cJ7_fill_d0a16 q.1 = .ok q.2 ∧ pm_tok q.1 q.2.1 q.2.2 = true := by decide +kernel
set_option maxRecDepth 100000 in
theorem fJ7_fill_d0a16_ok : ∀ q ∈ fJ7_fill_d0a16, pm_Fok wsJ7_fill_d0a16 yJ7_fill_d0a16.cls q.1 q.2.1 q.2.2 := fun _ h => absurd h List.not_mem_nil
set_option maxRecDepth 100000 in
theorem qJ7_fill_d0a16_ok : ∀ q ∈ qJ7_fill_d0a16, pm_Kok wsJ7_fill_d0a16 yJ7_fill_d0a16.cls q.1 q.2 := fun _ h => absurd h List.not_mem_nil
set_option maxRecDepth 100000 in
theorem conJ7_fill_d0a16 (l : Launch) : pm_Con l yJ7_fill_d0a16 wsJ7_fill_d0a16 mJ7_fill_d0a16 shX 288 kJ7_fill_d0a16 := pm_met_con (cc := cJ7_fill_d0a16) (by decide +kernel) rfl shX_N tJ7_fill_d0a16_ok fJ7_fill_d0a16_ok qJ7_fill_d0a16_ok (fun _ h => absurd h List.not_mem_nil)

def tX0_begin : List (Nat × (Instr × Nat)) := [(0, (.aload_n 0, 1)), (1, (.dup, 1)), (2, (.getfield 38, 3)), (5, (.iconst 1, 1)), (6, (.iadd, 1)), (7, (.putfield 38, 3)), (10, (.aload_n 0, 1)), (11, (.iconst 0, 1)), (12, (.putfield 44, 3)), (15, (.aload_n 0, 1)), (16, (.iconst 0, 1)), (17, (.putfield 47, 3)), (20, (.aload_n 0, 1)), (21, (.iconst 0, 1)), (22, (.putfield 50, 3)), (25, (.aload_n 0, 1)), (26, (.iconst 0, 1)), (27, (.putfield 54, 3)), (30, (.aload_n 0, 1)), (31, (.iconst 0, 1)), (32, (.putfield 57, 3)), (35, (.aload_n 0, 1)), (36, (.iconst 0, 1)), (37, (.putfield 60, 3)), (40, (.aload_n 0, 1)), (41, (.iconst 0, 1)), (42, (.putfield 63, 3)), (45, (.aload_n 0, 1)), (46, (.getfield 18, 3)), (49, (.lconst 0, 1)), (50, (.invokestatic 66, 3)), (53, (.return_, 1))]
def fX0_begin : List (Nat × (Nat × Nat)) := [(38, (0, 1)), (44, (0, 10)), (47, (0, 3)), (50, (0, 4)), (54, (0, 5)), (57, (0, 11)), (60, (0, 12)), (63, (0, 6)), (18, (0, 13))]
def qX0_begin : List (Nat × (Int32 ⊕ Int64)) := []
noncomputable def lX0_begin : List (Nat × (Nat × (Option Nat × pFN))) := [(66, (2, (none, kJ7_fill_d0a16)))]
noncomputable def kX0_begin : pFN := pm_met shX (some 0) tX0_begin fX0_begin qX0_begin lX0_begin 1 0
def mX0_begin : Room := { frames := 1, cells := 0, slots := 0, locals := 24 }
set_option maxRecDepth 100000 in
theorem tX0_begin_ok : ∀ q ∈ tX0_begin, decode cX0_begin q.1 = .ok q.2 ∧ pm_tok q.1 q.2.1 q.2.2 = true := by decide +kernel
set_option maxRecDepth 100000 in
theorem fX0_begin_ok : ∀ q ∈ fX0_begin, pm_Fok wsX0_begin yX0_begin.cls q.1 q.2.1 q.2.2 := List.forall_mem_cons.mpr ⟨⟨(RX0, TX0, 18), rfl, by decide, by decide +kernel, fun w h => List.mem_cons_of_mem _ (List.mem_append_right _ h)⟩, List.forall_mem_cons.mpr ⟨⟨(RX0, TX0, 18), rfl, by decide, by decide +kernel, fun w h => List.mem_cons_of_mem _ (List.mem_append_right _ h)⟩, List.forall_mem_cons.mpr ⟨⟨(RX0, TX0, 18), rfl, by decide, by decide +kernel, fun w h => List.mem_cons_of_mem _ (List.mem_append_right _ h)⟩, List.forall_mem_cons.mpr ⟨⟨(RX0, TX0, 18), rfl, by decide, by decide +kernel, fun w h => List.mem_cons_of_mem _ (List.mem_append_right _ h)⟩, List.forall_mem_cons.mpr ⟨⟨(RX0, TX0, 18), rfl, by decide, by decide +kernel, fun w h => List.mem_cons_of_mem _ (List.mem_append_right _ h)⟩, List.forall_mem_cons.mpr ⟨⟨(RX0, TX0, 18), rfl, by decide, by decide +kernel, fun w h => List.mem_cons_of_mem _ (List.mem_append_right _ h)⟩, List.forall_mem_cons.mpr ⟨⟨(RX0, TX0, 18), rfl, by decide, by decide +kernel, fun w h => List.mem_cons_of_mem _ (List.mem_append_right _ h)⟩, List.forall_mem_cons.mpr ⟨⟨(RX0, TX0, 18), rfl, by decide, by decide +kernel, fun w h => List.mem_cons_of_mem _ (List.mem_append_right _ h)⟩, List.forall_mem_cons.mpr ⟨⟨(RX0, TX0, 18), rfl, by decide, by decide +kernel, fun w h => List.mem_cons_of_mem _ (List.mem_append_right _ h)⟩, fun _ h => absurd h List.not_mem_nil⟩⟩⟩⟩⟩⟩⟩⟩⟩
set_option maxRecDepth 100000 in
theorem qX0_begin_ok : ∀ q ∈ qX0_begin, pm_Kok wsX0_begin yX0_begin.cls q.1 q.2 := fun _ h => absurd h List.not_mem_nil
set_option maxRecDepth 100000 in
theorem conX0_begin (l : Launch) : pm_Con l yX0_begin wsX0_begin mX0_begin shX 288 kX0_begin := pm_met_con (cc := cX0_begin) (by decide +kernel) rfl shX_N tX0_begin_ok fX0_begin_ok qX0_begin_ok (List.forall_mem_cons.mpr ⟨Or.inl ⟨yJ7_fill_d0a16, wsJ7_fill_d0a16, _, mJ7_fill_d0a16, cJ7_fill_d0a16, 5, pm_rt 0, conJ7_fill_d0a16 l, gX0_begin_J7_fill_d0a16, rfl, rfl, rfl, by decide +kernel, by decide⟩, fun _ h => absurd h List.not_mem_nil⟩)

def tX2_hasAct : List (Nat × (Instr × Nat)) := [(0, (.iload_n 1, 1)), (1, (.ifCond .lt 29, 3)), (4, (.iload_n 1, 1)), (5, (.aload_n 0, 1)), (6, (.getfield 28, 3)), (9, (.if_icmp .ge 21, 3)), (12, (.iload_n 2, 1)), (13, (.ifCond .lt 17, 3)), (16, (.iload_n 2, 1)), (17, (.aload_n 0, 1)), (18, (.getfield 9, 3)), (21, (.iload_n 1, 1)), (22, (.iaload, 1)), (23, (.if_icmp .ge 7, 3)), (26, (.iconst 1, 1)), (27, (.goto 4, 3)), (30, (.iconst 0, 1)), (31, (.ireturn, 1))]
def fX2_hasAct : List (Nat × (Nat × Nat)) := [(28, (2, 0)), (9, (2, 1))]
def qX2_hasAct : List (Nat × (Int32 ⊕ Int64)) := []
noncomputable def lX2_hasAct : List (Nat × (Nat × (Option Nat × pFN))) := []
noncomputable def kX2_hasAct : pFN := pm_met shX (some 2) tX2_hasAct fX2_hasAct qX2_hasAct lX2_hasAct 3 2
def mX2_hasAct : Room := { frames := 0, cells := 0, slots := 0, locals := 0 }
set_option maxRecDepth 100000 in
theorem tX2_hasAct_ok : ∀ q ∈ tX2_hasAct, decode cX2_hasAct q.1 = .ok q.2 ∧ pm_tok q.1 q.2.1 q.2.2 = true := by decide +kernel
set_option maxRecDepth 100000 in
theorem fX2_hasAct_ok : ∀ q ∈ fX2_hasAct, pm_Fok wsX2_hasAct yX2_hasAct.cls q.1 q.2.1 q.2.2 := List.forall_mem_cons.mpr ⟨⟨(RX2, TX2, 6), rfl, by decide, by decide +kernel, fun w h => List.mem_cons_of_mem _ (List.mem_append_right _ h)⟩, List.forall_mem_cons.mpr ⟨⟨(RX2, TX2, 6), rfl, by decide, by decide +kernel, fun w h => List.mem_cons_of_mem _ (List.mem_append_right _ h)⟩, fun _ h => absurd h List.not_mem_nil⟩⟩
set_option maxRecDepth 100000 in
theorem qX2_hasAct_ok : ∀ q ∈ qX2_hasAct, pm_Kok wsX2_hasAct yX2_hasAct.cls q.1 q.2 := fun _ h => absurd h List.not_mem_nil
set_option maxRecDepth 100000 in
theorem conX2_hasAct (l : Launch) : pm_Con l yX2_hasAct wsX2_hasAct mX2_hasAct shX 288 kX2_hasAct := pm_met_con (cc := cX2_hasAct) (by decide +kernel) rfl shX_N tX2_hasAct_ok fX2_hasAct_ok qX2_hasAct_ok (fun _ h => absurd h List.not_mem_nil)

def tX0_isOver : List (Nat × (Instr × Nat)) := [(0, (.aload_n 0, 1)), (1, (.getfield 50, 3)), (4, (.ifCond .ne 18, 3)), (7, (.aload_n 1, 1)), (8, (.aload_n 0, 1)), (9, (.getfield 34, 3)), (12, (.aload_n 0, 1)), (13, (.getfield 44, 3)), (16, (.invokevirtual 72, 3)), (19, (.ifCond .ne 7, 3)), (22, (.iconst 1, 1)), (23, (.goto 4, 3)), (26, (.iconst 0, 1)), (27, (.ireturn, 1))]
def fX0_isOver : List (Nat × (Nat × Nat)) := [(50, (0, 4)), (34, (0, 0)), (44, (0, 10))]
def qX0_isOver : List (Nat × (Int32 ⊕ Int64)) := []
noncomputable def lX0_isOver : List (Nat × (Nat × (Option Nat × pFN))) := [(72, (3, (some 2, kX2_hasAct)))]
noncomputable def kX0_isOver : pFN := pm_met shX (some 0) tX0_isOver fX0_isOver qX0_isOver lX0_isOver 2 2
def mX0_isOver : Room := { frames := 1, cells := 0, slots := 0, locals := 22 }
set_option maxRecDepth 100000 in
theorem tX0_isOver_ok : ∀ q ∈ tX0_isOver, decode cX0_isOver q.1 = .ok q.2 ∧ pm_tok q.1 q.2.1 q.2.2 = true := by decide +kernel
set_option maxRecDepth 100000 in
theorem fX0_isOver_ok : ∀ q ∈ fX0_isOver, pm_Fok wsX0_isOver yX0_isOver.cls q.1 q.2.1 q.2.2 := List.forall_mem_cons.mpr ⟨⟨(RX0, TX0, 18), rfl, by decide, by decide +kernel, fun w h => List.mem_cons_of_mem _ (List.mem_append_left _ (List.mem_append_right _ h))⟩, List.forall_mem_cons.mpr ⟨⟨(RX0, TX0, 18), rfl, by decide, by decide +kernel, fun w h => List.mem_cons_of_mem _ (List.mem_append_left _ (List.mem_append_right _ h))⟩, List.forall_mem_cons.mpr ⟨⟨(RX0, TX0, 18), rfl, by decide, by decide +kernel, fun w h => List.mem_cons_of_mem _ (List.mem_append_left _ (List.mem_append_right _ h))⟩, fun _ h => absurd h List.not_mem_nil⟩⟩⟩
set_option maxRecDepth 100000 in
theorem qX0_isOver_ok : ∀ q ∈ qX0_isOver, pm_Kok wsX0_isOver yX0_isOver.cls q.1 q.2 := fun _ h => absurd h List.not_mem_nil
set_option maxRecDepth 100000 in
theorem conX0_isOver (l : Launch) : pm_Con l yX0_isOver wsX0_isOver mX0_isOver shX 288 kX0_isOver := pm_met_con (cc := cX0_isOver) (by decide +kernel) rfl shX_N tX0_isOver_ok fX0_isOver_ok qX0_isOver_ok (List.forall_mem_cons.mpr ⟨⟨yX2_hasAct, wsX2_hasAct, _, mX2_hasAct, cX2_hasAct, 3, pm_rt 2, (RX2, TX2, 6), conX2_hasAct l, pm_met_recv, rfl, gX0_isOver_X2_hasAct, rfl, rfl, rfl, by decide +kernel, by decide⟩, fun _ h => absurd h List.not_mem_nil⟩)

def tX0_hasWritten : List (Nat × (Instr × Nat)) := [(0, (.aload_n 0, 1)), (1, (.getfield 60, 3)), (4, (.iconst 1, 1)), (5, (.iload_n 1, 1)), (6, (.ishl, 1)), (7, (.iand, 1)), (8, (.ifCond .eq 7, 3)), (11, (.iconst 1, 1)), (12, (.goto 4, 3)), (15, (.iconst 0, 1)), (16, (.ireturn, 1))]
def fX0_hasWritten : List (Nat × (Nat × Nat)) := [(60, (0, 12))]
def qX0_hasWritten : List (Nat × (Int32 ⊕ Int64)) := []
noncomputable def lX0_hasWritten : List (Nat × (Nat × (Option Nat × pFN))) := []
noncomputable def kX0_hasWritten : pFN := pm_met shX (some 0) tX0_hasWritten fX0_hasWritten qX0_hasWritten lX0_hasWritten 2 2
def mX0_hasWritten : Room := { frames := 0, cells := 0, slots := 0, locals := 0 }
set_option maxRecDepth 100000 in
theorem tX0_hasWritten_ok : ∀ q ∈ tX0_hasWritten, decode cX0_hasWritten q.1 = .ok q.2 ∧ pm_tok q.1 q.2.1 q.2.2 = true := by decide +kernel
set_option maxRecDepth 100000 in
theorem fX0_hasWritten_ok : ∀ q ∈ fX0_hasWritten, pm_Fok wsX0_hasWritten yX0_hasWritten.cls q.1 q.2.1 q.2.2 := List.forall_mem_cons.mpr ⟨⟨(RX0, TX0, 18), rfl, by decide, by decide +kernel, fun w h => List.mem_cons_of_mem _ (List.mem_append_right _ h)⟩, fun _ h => absurd h List.not_mem_nil⟩
set_option maxRecDepth 100000 in
theorem qX0_hasWritten_ok : ∀ q ∈ qX0_hasWritten, pm_Kok wsX0_hasWritten yX0_hasWritten.cls q.1 q.2 := fun _ h => absurd h List.not_mem_nil
set_option maxRecDepth 100000 in
theorem conX0_hasWritten (l : Launch) : pm_Con l yX0_hasWritten wsX0_hasWritten mX0_hasWritten shX 288 kX0_hasWritten := pm_met_con (cc := cX0_hasWritten) (by decide +kernel) rfl shX_N tX0_hasWritten_ok fX0_hasWritten_ok qX0_hasWritten_ok (fun _ h => absurd h List.not_mem_nil)

def tJ6_bitCount_0f7a4 : List (Nat × (Instr × Nat)) := [(0, (.iload_n 0, 1)), (1, (.iload_n 0, 1)), (2, (.iconst 1, 1)), (3, (.iushr, 1)), (4, (.ldc_w 265, 3)), (7, (.iand, 1)), (8, (.isub, 1)), (9, (.istore_n 0, 1)), (10, (.iload_n 0, 1)), (11, (.ldc_w 266, 3)), (14, (.iand, 1)), (15, (.iload_n 0, 1)), (16, (.iconst 2, 1)), (17, (.iushr, 1)), (18, (.ldc_w 266, 3)), (21, (.iand, 1)), (22, (.iadd, 1)), (23, (.istore_n 0, 1)), (24, (.iload_n 0, 1)), (25, (.iload_n 0, 1)), (26, (.iconst 4, 1)), (27, (.iushr, 1)), (28, (.iadd, 1)), (29, (.ldc_w 267, 3)), (32, (.iand, 1)), (33, (.istore_n 0, 1)), (34, (.iload_n 0, 1)), (35, (.iload_n 0, 1)), (36, (.bipush 8, 2)), (38, (.iushr, 1)), (39, (.iadd, 1)), (40, (.istore_n 0, 1)), (41, (.iload_n 0, 1)), (42, (.iload_n 0, 1)), (43, (.bipush 16, 2)), (45, (.iushr, 1)), (46, (.iadd, 1)), (47, (.istore_n 0, 1)), (48, (.iload_n 0, 1)), (49, (.bipush 63, 2)), (51, (.iand, 1)), (52, (.ireturn, 1))]
def fJ6_bitCount_0f7a4 : List (Nat × (Nat × Nat)) := []
def qJ6_bitCount_0f7a4 : List (Nat × (Int32 ⊕ Int64)) := [(265, .inl (1431655765)), (266, .inl (858993459)), (267, .inl (252645135))]
noncomputable def lJ6_bitCount_0f7a4 : List (Nat × (Nat × (Option Nat × pFN))) := []
noncomputable def kJ6_bitCount_0f7a4 : pFN := pm_met shX (none) tJ6_bitCount_0f7a4 fJ6_bitCount_0f7a4 qJ6_bitCount_0f7a4 lJ6_bitCount_0f7a4 1 1
def mJ6_bitCount_0f7a4 : Room := { frames := 0, cells := 0, slots := 0, locals := 0 }
set_option maxRecDepth 100000 in
theorem tJ6_bitCount_0f7a4_ok : ∀ q ∈ tJ6_bitCount_0f7a4, decode cJ6_bitCount_0f7a4 q.1 = .ok q.2 ∧ pm_tok q.1 q.2.1 q.2.2 = true := by decide +kernel
set_option maxRecDepth 100000 in
theorem fJ6_bitCount_0f7a4_ok : ∀ q ∈ fJ6_bitCount_0f7a4, pm_Fok wsJ6_bitCount_0f7a4 yJ6_bitCount_0f7a4.cls q.1 q.2.1 q.2.2 := fun _ h => absurd h List.not_mem_nil
set_option maxRecDepth 100000 in
theorem qJ6_bitCount_0f7a4_ok : ∀ q ∈ qJ6_bitCount_0f7a4, pm_Kok wsJ6_bitCount_0f7a4 yJ6_bitCount_0f7a4.cls q.1 q.2 := List.forall_mem_cons.mpr ⟨(by decide +kernel : _ ∈ wsJ6_bitCount_0f7a4), List.forall_mem_cons.mpr ⟨(by decide +kernel : _ ∈ wsJ6_bitCount_0f7a4), List.forall_mem_cons.mpr ⟨(by decide +kernel : _ ∈ wsJ6_bitCount_0f7a4), fun _ h => absurd h List.not_mem_nil⟩⟩⟩
set_option maxRecDepth 100000 in
theorem conJ6_bitCount_0f7a4 (l : Launch) : pm_Con l yJ6_bitCount_0f7a4 wsJ6_bitCount_0f7a4 mJ6_bitCount_0f7a4 shX 288 kJ6_bitCount_0f7a4 := pm_met_con (cc := cJ6_bitCount_0f7a4) (by decide +kernel) rfl shX_N tJ6_bitCount_0f7a4_ok fJ6_bitCount_0f7a4_ok qJ6_bitCount_0f7a4_ok (fun _ h => absurd h List.not_mem_nil)

def tX0_countWritten : List (Nat × (Instr × Nat)) := [(0, (.aload_n 0, 1)), (1, (.getfield 60, 3)), (4, (.invokestatic 78, 3)), (7, (.ireturn, 1))]
def fX0_countWritten : List (Nat × (Nat × Nat)) := [(60, (0, 12))]
def qX0_countWritten : List (Nat × (Int32 ⊕ Int64)) := []
noncomputable def lX0_countWritten : List (Nat × (Nat × (Option Nat × pFN))) := [(78, (1, (none, kJ6_bitCount_0f7a4)))]
noncomputable def kX0_countWritten : pFN := pm_met shX (some 0) tX0_countWritten fX0_countWritten qX0_countWritten lX0_countWritten 1 1
def mX0_countWritten : Room := { frames := 1, cells := 0, slots := 0, locals := 20 }
set_option maxRecDepth 100000 in
theorem tX0_countWritten_ok : ∀ q ∈ tX0_countWritten, decode cX0_countWritten q.1 = .ok q.2 ∧ pm_tok q.1 q.2.1 q.2.2 = true := by decide +kernel
set_option maxRecDepth 100000 in
theorem fX0_countWritten_ok : ∀ q ∈ fX0_countWritten, pm_Fok wsX0_countWritten yX0_countWritten.cls q.1 q.2.1 q.2.2 := List.forall_mem_cons.mpr ⟨⟨(RX0, TX0, 18), rfl, by decide, by decide +kernel, fun w h => List.mem_cons_of_mem _ (List.mem_append_right _ h)⟩, fun _ h => absurd h List.not_mem_nil⟩
set_option maxRecDepth 100000 in
theorem qX0_countWritten_ok : ∀ q ∈ qX0_countWritten, pm_Kok wsX0_countWritten yX0_countWritten.cls q.1 q.2 := fun _ h => absurd h List.not_mem_nil
set_option maxRecDepth 100000 in
theorem conX0_countWritten (l : Launch) : pm_Con l yX0_countWritten wsX0_countWritten mX0_countWritten shX 288 kX0_countWritten := pm_met_con (cc := cX0_countWritten) (by decide +kernel) rfl shX_N tX0_countWritten_ok fX0_countWritten_ok qX0_countWritten_ok (List.forall_mem_cons.mpr ⟨Or.inl ⟨yJ6_bitCount_0f7a4, wsJ6_bitCount_0f7a4, _, mJ6_bitCount_0f7a4, cJ6_bitCount_0f7a4, 1, pm_rt 1, conJ6_bitCount_0f7a4 l, gX0_countWritten_J6_bitCount_0f7a4, rfl, rfl, rfl, by decide +kernel, by decide⟩, fun _ h => absurd h List.not_mem_nil⟩)

def tX0_touched : List (Nat × (Instr × Nat)) := [(0, (.aload_n 0, 1)), (1, (.getfield 57, 3)), (4, (.aload_n 0, 1)), (5, (.getfield 60, 3)), (8, (.ior, 1)), (9, (.iconst 1, 1)), (10, (.iload_n 1, 1)), (11, (.ishl, 1)), (12, (.iand, 1)), (13, (.ifCond .eq 7, 3)), (16, (.iconst 1, 1)), (17, (.goto 4, 3)), (20, (.iconst 0, 1)), (21, (.ireturn, 1))]
def fX0_touched : List (Nat × (Nat × Nat)) := [(57, (0, 11)), (60, (0, 12))]
def qX0_touched : List (Nat × (Int32 ⊕ Int64)) := []
noncomputable def lX0_touched : List (Nat × (Nat × (Option Nat × pFN))) := []
noncomputable def kX0_touched : pFN := pm_met shX (some 0) tX0_touched fX0_touched qX0_touched lX0_touched 2 2
def mX0_touched : Room := { frames := 0, cells := 0, slots := 0, locals := 0 }
set_option maxRecDepth 100000 in
theorem tX0_touched_ok : ∀ q ∈ tX0_touched, decode cX0_touched q.1 = .ok q.2 ∧ pm_tok q.1 q.2.1 q.2.2 = true := by decide +kernel
set_option maxRecDepth 100000 in
theorem fX0_touched_ok : ∀ q ∈ fX0_touched, pm_Fok wsX0_touched yX0_touched.cls q.1 q.2.1 q.2.2 := List.forall_mem_cons.mpr ⟨⟨(RX0, TX0, 18), rfl, by decide, by decide +kernel, fun w h => List.mem_cons_of_mem _ (List.mem_append_right _ h)⟩, List.forall_mem_cons.mpr ⟨⟨(RX0, TX0, 18), rfl, by decide, by decide +kernel, fun w h => List.mem_cons_of_mem _ (List.mem_append_right _ h)⟩, fun _ h => absurd h List.not_mem_nil⟩⟩
set_option maxRecDepth 100000 in
theorem qX0_touched_ok : ∀ q ∈ qX0_touched, pm_Kok wsX0_touched yX0_touched.cls q.1 q.2 := fun _ h => absurd h List.not_mem_nil
set_option maxRecDepth 100000 in
theorem conX0_touched (l : Launch) : pm_Con l yX0_touched wsX0_touched mX0_touched shX 288 kX0_touched := pm_met_con (cc := cX0_touched) (by decide +kernel) rfl shX_N tX0_touched_ok fX0_touched_ok qX0_touched_ok (fun _ h => absurd h List.not_mem_nil)

def tX0_leafAt : List (Nat × (Instr × Nat)) := [(0, (.lload_n 2, 1)), (1, (.aload_n 0, 1)), (2, (.getfield 18, 3)), (5, (.iload_n 1, 1)), (6, (.laload, 1)), (7, (.ladd, 1)), (8, (.ldc2_w 114, 3)), (11, (.land, 1)), (12, (.l2i, 1)), (13, (.ireturn, 1))]
def fX0_leafAt : List (Nat × (Nat × Nat)) := [(18, (0, 13))]
def qX0_leafAt : List (Nat × (Int32 ⊕ Int64)) := [(114, .inr (31))]
noncomputable def lX0_leafAt : List (Nat × (Nat × (Option Nat × pFN))) := []
noncomputable def kX0_leafAt : pFN := pm_met shX (some 0) tX0_leafAt fX0_leafAt qX0_leafAt lX0_leafAt 4 1
def mX0_leafAt : Room := { frames := 0, cells := 0, slots := 0, locals := 0 }
set_option maxRecDepth 100000 in
theorem tX0_leafAt_ok : ∀ q ∈ tX0_leafAt, decode cX0_leafAt q.1 = .ok q.2 ∧ pm_tok q.1 q.2.1 q.2.2 = true := by decide +kernel
set_option maxRecDepth 100000 in
theorem fX0_leafAt_ok : ∀ q ∈ fX0_leafAt, pm_Fok wsX0_leafAt yX0_leafAt.cls q.1 q.2.1 q.2.2 := List.forall_mem_cons.mpr ⟨⟨(RX0, TX0, 18), rfl, by decide, by decide +kernel, fun w h => List.mem_cons_of_mem _ (List.mem_append_right _ h)⟩, fun _ h => absurd h List.not_mem_nil⟩
set_option maxRecDepth 100000 in
theorem qX0_leafAt_ok : ∀ q ∈ qX0_leafAt, pm_Kok wsX0_leafAt yX0_leafAt.cls q.1 q.2 := List.forall_mem_cons.mpr ⟨(by decide +kernel : _ ∈ wsX0_leafAt), fun _ h => absurd h List.not_mem_nil⟩
set_option maxRecDepth 100000 in
theorem conX0_leafAt (l : Launch) : pm_Con l yX0_leafAt wsX0_leafAt mX0_leafAt shX 288 kX0_leafAt := pm_met_con (cc := cX0_leafAt) (by decide +kernel) rfl shX_N tX0_leafAt_ok fX0_leafAt_ok qX0_leafAt_ok (fun _ h => absurd h List.not_mem_nil)

def tX5_writerBelow : List (Nat × (Instr × Nat)) := [(0, (.iload_n 2, 1)), (1, (.iconst 1, 1)), (2, (.isub, 1)), (3, (.istore_n 3, 1)), (4, (.iload_n 3, 1)), (5, (.ifCond .lt 25, 3)), (8, (.aload_n 0, 1)), (9, (.getfield 15, 3)), (12, (.iload_n 1, 1)), (13, (.bipush 16, 2)), (15, (.imul, 1)), (16, (.iload_n 3, 1)), (17, (.iadd, 1)), (18, (.iaload, 1)), (19, (.ifCond .eq 5, 3)), (22, (.iload_n 3, 1)), (23, (.ireturn, 1)), (24, (.iinc 3 (-1), 3)), (27, (.goto (-23), 3)), (30, (.iconst (-1), 1)), (31, (.ireturn, 1))]
def fX5_writerBelow : List (Nat × (Nat × Nat)) := [(15, (4, 1))]
def qX5_writerBelow : List (Nat × (Int32 ⊕ Int64)) := []
noncomputable def lX5_writerBelow : List (Nat × (Nat × (Option Nat × pFN))) := []
noncomputable def kX5_writerBelow : pFN := pm_met shX (some 4) tX5_writerBelow fX5_writerBelow qX5_writerBelow lX5_writerBelow 4 1
def mX5_writerBelow : Room := { frames := 0, cells := 0, slots := 0, locals := 0 }
set_option maxRecDepth 100000 in
theorem tX5_writerBelow_ok : ∀ q ∈ tX5_writerBelow, decode cX5_writerBelow q.1 = .ok q.2 ∧ pm_tok q.1 q.2.1 q.2.2 = true := by decide +kernel
set_option maxRecDepth 100000 in
theorem fX5_writerBelow_ok : ∀ q ∈ fX5_writerBelow, pm_Fok wsX5_writerBelow yX5_writerBelow.cls q.1 q.2.1 q.2.2 := List.forall_mem_cons.mpr ⟨⟨(RX5, TX5, 4), rfl, by decide, by decide +kernel, fun w h => List.mem_cons_of_mem _ (List.mem_append_right _ h)⟩, fun _ h => absurd h List.not_mem_nil⟩
set_option maxRecDepth 100000 in
theorem qX5_writerBelow_ok : ∀ q ∈ qX5_writerBelow, pm_Kok wsX5_writerBelow yX5_writerBelow.cls q.1 q.2 := fun _ h => absurd h List.not_mem_nil
set_option maxRecDepth 100000 in
theorem conX5_writerBelow (l : Launch) : pm_Con l yX5_writerBelow wsX5_writerBelow mX5_writerBelow shX 288 kX5_writerBelow := pm_met_con (cc := cX5_writerBelow) (by decide +kernel) rfl shX_N tX5_writerBelow_ok fX5_writerBelow_ok qX5_writerBelow_ok (fun _ h => absurd h List.not_mem_nil)

def tX5_isPerhaps : List (Nat × (Instr × Nat)) := [(0, (.iload_n 2, 1)), (1, (.iconst (-1), 1)), (2, (.if_icmp .eq 22, 3)), (5, (.aload_n 0, 1)), (6, (.getfield 15, 3)), (9, (.iload_n 1, 1)), (10, (.bipush 16, 2)), (12, (.imul, 1)), (13, (.iload_n 2, 1)), (14, (.iadd, 1)), (15, (.iaload, 1)), (16, (.iconst 2, 1)), (17, (.if_icmp .ne 7, 3)), (20, (.iconst 1, 1)), (21, (.goto 4, 3)), (24, (.iconst 0, 1)), (25, (.ireturn, 1))]
def fX5_isPerhaps : List (Nat × (Nat × Nat)) := [(15, (4, 1))]
def qX5_isPerhaps : List (Nat × (Int32 ⊕ Int64)) := []
noncomputable def lX5_isPerhaps : List (Nat × (Nat × (Option Nat × pFN))) := []
noncomputable def kX5_isPerhaps : pFN := pm_met shX (some 4) tX5_isPerhaps fX5_isPerhaps qX5_isPerhaps lX5_isPerhaps 3 2
def mX5_isPerhaps : Room := { frames := 0, cells := 0, slots := 0, locals := 0 }
set_option maxRecDepth 100000 in
theorem tX5_isPerhaps_ok : ∀ q ∈ tX5_isPerhaps, decode cX5_isPerhaps q.1 = .ok q.2 ∧ pm_tok q.1 q.2.1 q.2.2 = true := by decide +kernel
set_option maxRecDepth 100000 in
theorem fX5_isPerhaps_ok : ∀ q ∈ fX5_isPerhaps, pm_Fok wsX5_isPerhaps yX5_isPerhaps.cls q.1 q.2.1 q.2.2 := List.forall_mem_cons.mpr ⟨⟨(RX5, TX5, 4), rfl, by decide, by decide +kernel, fun w h => List.mem_cons_of_mem _ (List.mem_append_right _ h)⟩, fun _ h => absurd h List.not_mem_nil⟩
set_option maxRecDepth 100000 in
theorem qX5_isPerhaps_ok : ∀ q ∈ qX5_isPerhaps, pm_Kok wsX5_isPerhaps yX5_isPerhaps.cls q.1 q.2 := fun _ h => absurd h List.not_mem_nil
set_option maxRecDepth 100000 in
theorem conX5_isPerhaps (l : Launch) : pm_Con l yX5_isPerhaps wsX5_isPerhaps mX5_isPerhaps shX 288 kX5_isPerhaps := pm_met_con (cc := cX5_isPerhaps) (by decide +kernel) rfl shX_N tX5_isPerhaps_ok fX5_isPerhaps_ok qX5_isPerhaps_ok (fun _ h => absurd h List.not_mem_nil)

def tX5_numberOf : List (Nat × (Instr × Nat)) := [(0, (.iload_n 2, 1)), (1, (.iconst (-1), 1)), (2, (.if_icmp .ne 7, 3)), (5, (.iconst (-1), 1)), (6, (.goto 14, 3)), (9, (.aload_n 0, 1)), (10, (.getfield 19, 3)), (13, (.iload_n 1, 1)), (14, (.bipush 16, 2)), (16, (.imul, 1)), (17, (.iload_n 2, 1)), (18, (.iadd, 1)), (19, (.iaload, 1)), (20, (.ireturn, 1))]
def fX5_numberOf : List (Nat × (Nat × Nat)) := [(19, (4, 2))]
def qX5_numberOf : List (Nat × (Int32 ⊕ Int64)) := []
noncomputable def lX5_numberOf : List (Nat × (Nat × (Option Nat × pFN))) := []
noncomputable def kX5_numberOf : pFN := pm_met shX (some 4) tX5_numberOf fX5_numberOf qX5_numberOf lX5_numberOf 3 1
def mX5_numberOf : Room := { frames := 0, cells := 0, slots := 0, locals := 0 }
set_option maxRecDepth 100000 in
theorem tX5_numberOf_ok : ∀ q ∈ tX5_numberOf, decode cX5_numberOf q.1 = .ok q.2 ∧ pm_tok q.1 q.2.1 q.2.2 = true := by decide +kernel
set_option maxRecDepth 100000 in
theorem fX5_numberOf_ok : ∀ q ∈ fX5_numberOf, pm_Fok wsX5_numberOf yX5_numberOf.cls q.1 q.2.1 q.2.2 := List.forall_mem_cons.mpr ⟨⟨(RX5, TX5, 4), rfl, by decide, by decide +kernel, fun w h => List.mem_cons_of_mem _ (List.mem_append_right _ h)⟩, fun _ h => absurd h List.not_mem_nil⟩
set_option maxRecDepth 100000 in
theorem qX5_numberOf_ok : ∀ q ∈ qX5_numberOf, pm_Kok wsX5_numberOf yX5_numberOf.cls q.1 q.2 := fun _ h => absurd h List.not_mem_nil
set_option maxRecDepth 100000 in
theorem conX5_numberOf (l : Launch) : pm_Con l yX5_numberOf wsX5_numberOf mX5_numberOf shX 288 kX5_numberOf := pm_met_con (cc := cX5_numberOf) (by decide +kernel) rfl shX_N tX5_numberOf_ok fX5_numberOf_ok qX5_numberOf_ok (fun _ h => absurd h List.not_mem_nil)

def tX5_valueOf : List (Nat × (Instr × Nat)) := [(0, (.iload_n 2, 1)), (1, (.iconst (-1), 1)), (2, (.if_icmp .ne 12, 3)), (5, (.aload_n 0, 1)), (6, (.getfield 9, 3)), (9, (.iload_n 1, 1)), (10, (.laload, 1)), (11, (.goto 14, 3)), (14, (.aload_n 0, 1)), (15, (.getfield 22, 3)), (18, (.iload_n 1, 1)), (19, (.bipush 16, 2)), (21, (.imul, 1)), (22, (.iload_n 2, 1)), (23, (.iadd, 1)), (24, (.laload, 1)), (25, (.lreturn, 1))]
def fX5_valueOf : List (Nat × (Nat × Nat)) := [(9, (4, 0)), (22, (4, 3))]
def qX5_valueOf : List (Nat × (Int32 ⊕ Int64)) := []
noncomputable def lX5_valueOf : List (Nat × (Nat × (Option Nat × pFN))) := []
noncomputable def kX5_valueOf : pFN := pm_met shX (some 4) tX5_valueOf fX5_valueOf qX5_valueOf lX5_valueOf 3 3
def mX5_valueOf : Room := { frames := 0, cells := 0, slots := 0, locals := 0 }
set_option maxRecDepth 100000 in
theorem tX5_valueOf_ok : ∀ q ∈ tX5_valueOf, decode cX5_valueOf q.1 = .ok q.2 ∧ pm_tok q.1 q.2.1 q.2.2 = true := by decide +kernel
set_option maxRecDepth 100000 in
theorem fX5_valueOf_ok : ∀ q ∈ fX5_valueOf, pm_Fok wsX5_valueOf yX5_valueOf.cls q.1 q.2.1 q.2.2 := List.forall_mem_cons.mpr ⟨⟨(RX5, TX5, 4), rfl, by decide, by decide +kernel, fun w h => List.mem_cons_of_mem _ (List.mem_append_right _ h)⟩, List.forall_mem_cons.mpr ⟨⟨(RX5, TX5, 4), rfl, by decide, by decide +kernel, fun w h => List.mem_cons_of_mem _ (List.mem_append_right _ h)⟩, fun _ h => absurd h List.not_mem_nil⟩⟩
set_option maxRecDepth 100000 in
theorem qX5_valueOf_ok : ∀ q ∈ qX5_valueOf, pm_Kok wsX5_valueOf yX5_valueOf.cls q.1 q.2 := fun _ h => absurd h List.not_mem_nil
set_option maxRecDepth 100000 in
theorem conX5_valueOf (l : Launch) : pm_Con l yX5_valueOf wsX5_valueOf mX5_valueOf shX 288 kX5_valueOf := pm_met_con (cc := cX5_valueOf) (by decide +kernel) rfl shX_N tX5_valueOf_ok fX5_valueOf_ok qX5_valueOf_ok (fun _ h => absurd h List.not_mem_nil)
