section
-- ===== PART A: goes FIRST, ahead of the names: the tables' words, and 'selects' of the private methods out of them =====
/-- a private method of a class that the tables say can be made, by its rows of tables_1 -/
def lw_okq (q : MethodName × Nat) : Prop := (q.1.cls ≠ "java/lang/invoke/MethodHandle" ∧ q.1.cls ≠ "java/lang/invoke/VarHandle") ∧ Cond.instantiable q.1.cls q.2 ∈ tables_1 ∧ Cond.privateMethod q.1 ∈ tables_1 ∧ Cond.instanceMethod q.1 ∈ tables_1
theorem lw_p0 : lw_okq (⟨"SectorWalk$Plan", "isTaken", "(II)Z"⟩, 11) := ⟨⟨by decide +kernel, by decide +kernel⟩, List.mem_of_getElem? (i := 18) (by decide +kernel), List.mem_of_getElem? (i := 178) (by decide +kernel), List.mem_of_getElem? (i := 179) (by decide +kernel)⟩
theorem lw_p1 : lw_okq (⟨"SectorWalk$Plan", "clash", "(II)Z"⟩, 11) := ⟨⟨by decide +kernel, by decide +kernel⟩, List.mem_of_getElem? (i := 18) (by decide +kernel), List.mem_of_getElem? (i := 230) (by decide +kernel), List.mem_of_getElem? (i := 231) (by decide +kernel)⟩
theorem lw_p2 : lw_okq (⟨"SectorWalk$Plan", "leaveAlike", "(III)Z"⟩, 11) := ⟨⟨by decide +kernel, by decide +kernel⟩, List.mem_of_getElem? (i := 18) (by decide +kernel), List.mem_of_getElem? (i := 234) (by decide +kernel), List.mem_of_getElem? (i := 235) (by decide +kernel)⟩
theorem lw_p3 : lw_okq (⟨"SectorWalk$Plan", "straddles", "(IIII)Z"⟩, 11) := ⟨⟨by decide +kernel, by decide +kernel⟩, List.mem_of_getElem? (i := 18) (by decide +kernel), List.mem_of_getElem? (i := 250) (by decide +kernel), List.mem_of_getElem? (i := 251) (by decide +kernel)⟩
theorem lw_p4 : lw_okq (⟨"SectorWalk$Plan", "side", "(III)I"⟩, 11) := ⟨⟨by decide +kernel, by decide +kernel⟩, List.mem_of_getElem? (i := 18) (by decide +kernel), List.mem_of_getElem? (i := 254) (by decide +kernel), List.mem_of_getElem? (i := 255) (by decide +kernel)⟩
theorem lw_p5 : lw_okq (⟨"SectorWalk", "returnToOrigin", "()V"⟩, 8) := ⟨⟨by decide +kernel, by decide +kernel⟩, List.mem_of_getElem? (i := 10) (by decide +kernel), List.mem_of_getElem? (i := 276) (by decide +kernel), List.mem_of_getElem? (i := 277) (by decide +kernel)⟩
theorem lw_p6 : lw_okq (⟨"SectorWalk", "walk", "(III)I"⟩, 8) := ⟨⟨by decide +kernel, by decide +kernel⟩, List.mem_of_getElem? (i := 10) (by decide +kernel), List.mem_of_getElem? (i := 307) (by decide +kernel), List.mem_of_getElem? (i := 308) (by decide +kernel)⟩
theorem lw_p7 : lw_okq (⟨"SectorWalk$Crossings", "isCrossed", "(LSectorWalk$Plan;ILSectorWalk$Stand;II)Z"⟩, 5) := ⟨⟨by decide +kernel, by decide +kernel⟩, List.mem_of_getElem? (i := 117) (by decide +kernel), List.mem_of_getElem? (i := 326) (by decide +kernel), List.mem_of_getElem? (i := 327) (by decide +kernel)⟩
theorem lw_p8 : lw_okq (⟨"SectorWalk$Crossings", "insert", "(I)V"⟩, 5) := ⟨⟨by decide +kernel, by decide +kernel⟩, List.mem_of_getElem? (i := 117) (by decide +kernel), List.mem_of_getElem? (i := 334) (by decide +kernel), List.mem_of_getElem? (i := 335) (by decide +kernel)⟩
theorem lw_p9 : lw_okq (⟨"SectorWalk$Crossings", "isFarther", "(II)Z"⟩, 5) := ⟨⟨by decide +kernel, by decide +kernel⟩, List.mem_of_getElem? (i := 117) (by decide +kernel), List.mem_of_getElem? (i := 338) (by decide +kernel), List.mem_of_getElem? (i := 339) (by decide +kernel)⟩
theorem lw_p10 : lw_okq (⟨"SectorWalk$Crossings", "comesFromFront", "(I)Z"⟩, 5) := ⟨⟨by decide +kernel, by decide +kernel⟩, List.mem_of_getElem? (i := 117) (by decide +kernel), List.mem_of_getElem? (i := 345) (by decide +kernel), List.mem_of_getElem? (i := 346) (by decide +kernel)⟩
theorem lw_p11 : lw_okq (⟨"SectorWalkModel", "clash", "(II)Z"⟩, 36) := ⟨⟨by decide +kernel, by decide +kernel⟩, List.mem_of_getElem? (i := 378) (by decide +kernel), List.mem_of_getElem? (i := 521) (by decide +kernel), List.mem_of_getElem? (i := 522) (by decide +kernel)⟩
theorem lw_p12 : lw_okq (⟨"SectorWalkModel", "isIn", "(II)Z"⟩, 36) := ⟨⟨by decide +kernel, by decide +kernel⟩, List.mem_of_getElem? (i := 378) (by decide +kernel), List.mem_of_getElem? (i := 525) (by decide +kernel), List.mem_of_getElem? (i := 526) (by decide +kernel)⟩
theorem lw_p13 : lw_okq (⟨"SectorWalkModel", "side", "(III)I"⟩, 36) := ⟨⟨by decide +kernel, by decide +kernel⟩, List.mem_of_getElem? (i := 378) (by decide +kernel), List.mem_of_getElem? (i := 529) (by decide +kernel), List.mem_of_getElem? (i := 530) (by decide +kernel)⟩
theorem lw_p14 : lw_okq (⟨"SectorWalkModel", "restart", "()V"⟩, 36) := ⟨⟨by decide +kernel, by decide +kernel⟩, List.mem_of_getElem? (i := 378) (by decide +kernel), List.mem_of_getElem? (i := 540) (by decide +kernel), List.mem_of_getElem? (i := 541) (by decide +kernel)⟩
theorem lw_p15 : lw_okq (⟨"SectorWalkModel", "go", "(III)I"⟩, 36) := ⟨⟨by decide +kernel, by decide +kernel⟩, List.mem_of_getElem? (i := 378) (by decide +kernel), List.mem_of_getElem? (i := 559) (by decide +kernel), List.mem_of_getElem? (i := 560) (by decide +kernel)⟩
def lw_privs_1 : List (MethodName × Nat) := [(⟨"SectorWalk$Plan", "isTaken", "(II)Z"⟩, 11), (⟨"SectorWalk$Plan", "clash", "(II)Z"⟩, 11), (⟨"SectorWalk$Plan", "leaveAlike", "(III)Z"⟩, 11), (⟨"SectorWalk$Plan", "straddles", "(IIII)Z"⟩, 11), (⟨"SectorWalk$Plan", "side", "(III)I"⟩, 11), (⟨"SectorWalk", "returnToOrigin", "()V"⟩, 8), (⟨"SectorWalk", "walk", "(III)I"⟩, 8), (⟨"SectorWalk$Crossings", "isCrossed", "(LSectorWalk$Plan;ILSectorWalk$Stand;II)Z"⟩, 5), (⟨"SectorWalk$Crossings", "insert", "(I)V"⟩, 5), (⟨"SectorWalk$Crossings", "isFarther", "(II)Z"⟩, 5), (⟨"SectorWalk$Crossings", "comesFromFront", "(I)Z"⟩, 5), (⟨"SectorWalkModel", "clash", "(II)Z"⟩, 36), (⟨"SectorWalkModel", "isIn", "(II)Z"⟩, 36), (⟨"SectorWalkModel", "side", "(III)I"⟩, 36), (⟨"SectorWalkModel", "restart", "()V"⟩, 36), (⟨"SectorWalkModel", "go", "(III)I"⟩, 36)]
theorem lw_r1 : ∀ q ∈ lw_privs_1, lw_okq q := List.forall_mem_cons.mpr ⟨lw_p0, List.forall_mem_cons.mpr ⟨lw_p1, List.forall_mem_cons.mpr ⟨lw_p2, List.forall_mem_cons.mpr ⟨lw_p3, List.forall_mem_cons.mpr ⟨lw_p4, List.forall_mem_cons.mpr ⟨lw_p5, List.forall_mem_cons.mpr ⟨lw_p6, List.forall_mem_cons.mpr ⟨lw_p7, List.forall_mem_cons.mpr ⟨lw_p8, List.forall_mem_cons.mpr ⟨lw_p9, List.forall_mem_cons.mpr ⟨lw_p10, List.forall_mem_cons.mpr ⟨lw_p11, List.forall_mem_cons.mpr ⟨lw_p12, List.forall_mem_cons.mpr ⟨lw_p13, List.forall_mem_cons.mpr ⟨lw_p14, List.forall_mem_cons.mpr ⟨lw_p15, fun _ h => absurd h List.not_mem_nil⟩⟩⟩⟩⟩⟩⟩⟩⟩⟩⟩⟩⟩⟩⟩⟩
theorem lw_p16 : lw_okq (⟨"SectorWalkModel", "cross", "(II)V"⟩, 36) := ⟨⟨by decide +kernel, by decide +kernel⟩, List.mem_of_getElem? (i := 378) (by decide +kernel), List.mem_of_getElem? (i := 575) (by decide +kernel), List.mem_of_getElem? (i := 576) (by decide +kernel)⟩
theorem lw_p17 : lw_okq (⟨"SectorWalkModel", "add", "(IJJ)V"⟩, 36) := ⟨⟨by decide +kernel, by decide +kernel⟩, List.mem_of_getElem? (i := 378) (by decide +kernel), List.mem_of_getElem? (i := 579) (by decide +kernel), List.mem_of_getElem? (i := 580) (by decide +kernel)⟩
theorem lw_p18 : lw_okq (⟨"SectorWalkModel", "isStop", "(III)Z"⟩, 36) := ⟨⟨by decide +kernel, by decide +kernel⟩, List.mem_of_getElem? (i := 378) (by decide +kernel), List.mem_of_getElem? (i := 583) (by decide +kernel), List.mem_of_getElem? (i := 584) (by decide +kernel)⟩
def lw_privs_2 : List (MethodName × Nat) := [(⟨"SectorWalkModel", "cross", "(II)V"⟩, 36), (⟨"SectorWalkModel", "add", "(IJJ)V"⟩, 36), (⟨"SectorWalkModel", "isStop", "(III)Z"⟩, 36)]
theorem lw_r2 : ∀ q ∈ lw_privs_2, lw_okq q := List.forall_mem_cons.mpr ⟨lw_p16, List.forall_mem_cons.mpr ⟨lw_p17, List.forall_mem_cons.mpr ⟨lw_p18, fun _ h => absurd h List.not_mem_nil⟩⟩⟩
def lw_privs : List (MethodName × Nat) := lw_privs_1 ++ (lw_privs_2)
def lw_tbl : List Cond := k2_sels lw_privs ++ tables_1
theorem lw_privs_ok : ∀ q ∈ lw_privs, lw_okq q := by
  show ∀ q ∈ lw_privs_1 ++ (lw_privs_2), lw_okq q
  exact List.forall_mem_append.mpr ⟨lw_r1, lw_r2⟩
end
section
def R_SW : String := "SectorWalk"
def F_SW : u_T := fun k => match k with
  | 0 => ("SectorWalk", "draft", "LSectorWalk$Plan;", true)
  | 1 => ("SectorWalk", "map", "LSectorWalk$Plan;", true)
  | 2 => ("SectorWalk", "tape", "LSectorWalk$Tape;", true)
  | 3 => ("SectorWalk", "origin", "LSectorWalk$Stand;", true)
  | 4 => ("SectorWalk", "now", "LSectorWalk$Stand;", true)
  | 5 => ("SectorWalk", "latest", "LSectorWalk$Crossings;", true)
  | 6 => ("SectorWalk", "mapsBuilt", "I", false)
  | _ => ("SectorWalk", "started", "Z", false)
def t_SW : Nat → FieldType := fun k => match k with
  | 0 => .object "SectorWalk$Plan"
  | 1 => .object "SectorWalk$Plan"
  | 2 => .object "SectorWalk$Tape"
  | 3 => .object "SectorWalk$Stand"
  | 4 => .object "SectorWalk$Stand"
  | 5 => .object "SectorWalk$Crossings"
  | 6 => .int
  | _ => .boolean
theorem n_SW : ∀ a, a < 8 → ∀ b, b < 8 → a ≠ b → (F_SW a).2.1 ≠ (F_SW b).2.1 := by decide +kernel
theorem t_SW_ok : ∀ k, k < 8 → parseFieldDescriptor (F_SW k).2.2.1 = some (t_SW k) := by decide +kernel
theorem sw_fs_SW : ∀ j, j < 8 → defaultValue (t_SW j) = vp_V [.null, .null, .null, .null, .null, .null, .int 0, .int 0] j := by
  intro j hj
  match j, hj with
  | 0, _ => rfl
  | 1, _ => rfl
  | 2, _ => rfl
  | 3, _ => rfl
  | 4, _ => rfl
  | 5, _ => rfl
  | 6, _ => rfl
  | 7, _ => rfl
def R_Pl : String := "SectorWalk$Plan"
def F_Pl : u_T := fun k => match k with
  | 0 => ("SectorWalk$Plan", "vertexX", "[I", true)
  | 1 => ("SectorWalk$Plan", "vertexY", "[I", true)
  | 2 => ("SectorWalk$Plan", "floor", "[I", true)
  | 3 => ("SectorWalk$Plan", "ceiling", "[I", true)
  | 4 => ("SectorWalk$Plan", "from", "[I", true)
  | 5 => ("SectorWalk$Plan", "to", "[I", true)
  | 6 => ("SectorWalk$Plan", "front", "[I", true)
  | 7 => ("SectorWalk$Plan", "back", "[I", true)
  | 8 => ("SectorWalk$Plan", "vertexCount", "I", false)
  | 9 => ("SectorWalk$Plan", "sectorCount", "I", false)
  | _ => ("SectorWalk$Plan", "wallCount", "I", false)
def t_Pl : Nat → FieldType := fun k => match k with
  | 0 => .array .int
  | 1 => .array .int
  | 2 => .array .int
  | 3 => .array .int
  | 4 => .array .int
  | 5 => .array .int
  | 6 => .array .int
  | 7 => .array .int
  | 8 => .int
  | 9 => .int
  | _ => .int
theorem n_Pl : ∀ a, a < 11 → ∀ b, b < 11 → a ≠ b → (F_Pl a).2.1 ≠ (F_Pl b).2.1 := by decide +kernel
theorem t_Pl_ok : ∀ k, k < 11 → parseFieldDescriptor (F_Pl k).2.2.1 = some (t_Pl k) := by decide +kernel
theorem sw_fs_Pl : ∀ j, j < 11 → defaultValue (t_Pl j) = vp_V [.null, .null, .null, .null, .null, .null, .null, .null, .int 0, .int 0, .int 0] j := by
  intro j hj
  match j, hj with
  | 0, _ => rfl
  | 1, _ => rfl
  | 2, _ => rfl
  | 3, _ => rfl
  | 4, _ => rfl
  | 5, _ => rfl
  | 6, _ => rfl
  | 7, _ => rfl
  | 8, _ => rfl
  | 9, _ => rfl
  | 10, _ => rfl
def R_Ta : String := "SectorWalk$Tape"
def F_Ta : u_T := fun k => match k with
  | 0 => ("SectorWalk$Tape", "ahead", "[I", true)
  | 1 => ("SectorWalk$Tape", "aside", "[I", true)
  | 2 => ("SectorWalk$Tape", "turn", "[I", true)
  | _ => ("SectorWalk$Tape", "count", "I", false)
def t_Ta : Nat → FieldType := fun k => match k with
  | 0 => .array .int
  | 1 => .array .int
  | 2 => .array .int
  | _ => .int
theorem n_Ta : ∀ a, a < 4 → ∀ b, b < 4 → a ≠ b → (F_Ta a).2.1 ≠ (F_Ta b).2.1 := by decide +kernel
theorem t_Ta_ok : ∀ k, k < 4 → parseFieldDescriptor (F_Ta k).2.2.1 = some (t_Ta k) := by decide +kernel
theorem sw_fs_Ta : ∀ j, j < 4 → defaultValue (t_Ta j) = vp_V [.null, .null, .null, .int 0] j := by
  intro j hj
  match j, hj with
  | 0, _ => rfl
  | 1, _ => rfl
  | 2, _ => rfl
  | 3, _ => rfl
def R_St : String := "SectorWalk$Stand"
def F_St : u_T := fun k => match k with
  | 0 => ("SectorWalk$Stand", "x", "I", false)
  | 1 => ("SectorWalk$Stand", "y", "I", false)
  | 2 => ("SectorWalk$Stand", "angle", "I", false)
  | _ => ("SectorWalk$Stand", "sector", "I", false)
def t_St : Nat → FieldType := fun k => match k with
  | 0 => .int
  | 1 => .int
  | 2 => .int
  | _ => .int
theorem n_St : ∀ a, a < 4 → ∀ b, b < 4 → a ≠ b → (F_St a).2.1 ≠ (F_St b).2.1 := by decide +kernel
theorem t_St_ok : ∀ k, k < 4 → parseFieldDescriptor (F_St k).2.2.1 = some (t_St k) := by decide +kernel
theorem sw_fs_St : ∀ j, j < 4 → defaultValue (t_St j) = vp_V [.int 0, .int 0, .int 0, .int 0] j := by
  intro j hj
  match j, hj with
  | 0, _ => rfl
  | 1, _ => rfl
  | 2, _ => rfl
  | 3, _ => rfl
def R_Cr : String := "SectorWalk$Crossings"
def F_Cr : u_T := fun k => match k with
  | 0 => ("SectorWalk$Crossings", "order", "[I", true)
  | 1 => ("SectorWalk$Crossings", "p", "[I", true)
  | 2 => ("SectorWalk$Crossings", "q", "[I", true)
  | 3 => ("SectorWalk$Crossings", "count", "I", false)
  | _ => ("SectorWalk$Crossings", "firstStopper", "I", false)
def t_Cr : Nat → FieldType := fun k => match k with
  | 0 => .array .int
  | 1 => .array .int
  | 2 => .array .int
  | 3 => .int
  | _ => .int
theorem n_Cr : ∀ a, a < 5 → ∀ b, b < 5 → a ≠ b → (F_Cr a).2.1 ≠ (F_Cr b).2.1 := by decide +kernel
theorem t_Cr_ok : ∀ k, k < 5 → parseFieldDescriptor (F_Cr k).2.2.1 = some (t_Cr k) := by decide +kernel
theorem sw_fs_Cr : ∀ j, j < 5 → defaultValue (t_Cr j) = vp_V [.null, .null, .null, .int 0, .int 0] j := by
  intro j hj
  match j, hj with
  | 0, _ => rfl
  | 1, _ => rfl
  | 2, _ => rfl
  | 3, _ => rfl
  | 4, _ => rfl
def R_Mo : String := "SectorWalkModel"
def F_Mo : u_T := fun k => match k with
  | 0 => ("SectorWalkModel", "thrown", "I", false)
  | 1 => ("SectorWalkModel", "xs", "[I", true)
  | 2 => ("SectorWalkModel", "ys", "[I", true)
  | 3 => ("SectorWalkModel", "vertices", "I", false)
  | 4 => ("SectorWalkModel", "floors", "[I", true)
  | 5 => ("SectorWalkModel", "ceilings", "[I", true)
  | 6 => ("SectorWalkModel", "sectors", "I", false)
  | 7 => ("SectorWalkModel", "froms", "[I", true)
  | 8 => ("SectorWalkModel", "tos", "[I", true)
  | 9 => ("SectorWalkModel", "fronts", "[I", true)
  | 10 => ("SectorWalkModel", "backs", "[I", true)
  | 11 => ("SectorWalkModel", "walls", "I", false)
  | 12 => ("SectorWalkModel", "ax", "[I", true)
  | 13 => ("SectorWalkModel", "ay", "[I", true)
  | 14 => ("SectorWalkModel", "bx", "[I", true)
  | 15 => ("SectorWalkModel", "by", "[I", true)
  | 16 => ("SectorWalkModel", "mapFronts", "[I", true)
  | 17 => ("SectorWalkModel", "mapBacks", "[I", true)
  | 18 => ("SectorWalkModel", "mapFloors", "[I", true)
  | 19 => ("SectorWalkModel", "mapCeilings", "[I", true)
  | 20 => ("SectorWalkModel", "mapVertices", "I", false)
  | 21 => ("SectorWalkModel", "mapSectors", "I", false)
  | 22 => ("SectorWalkModel", "mapWalls", "I", false)
  | 23 => ("SectorWalkModel", "built", "I", false)
  | 24 => ("SectorWalkModel", "started", "Z", false)
  | 25 => ("SectorWalkModel", "begin", "[I", true)
  | 26 => ("SectorWalkModel", "now", "[I", true)
  | 27 => ("SectorWalkModel", "aheads", "[I", true)
  | 28 => ("SectorWalkModel", "asides", "[I", true)
  | 29 => ("SectorWalkModel", "turns", "[I", true)
  | 30 => ("SectorWalkModel", "inputs", "I", false)
  | 31 => ("SectorWalkModel", "crossed", "[I", true)
  | 32 => ("SectorWalkModel", "ps", "[J", true)
  | 33 => ("SectorWalkModel", "qs", "[J", true)
  | 34 => ("SectorWalkModel", "many", "I", false)
  | _ => ("SectorWalkModel", "stopper", "I", false)
def t_Mo : Nat → FieldType := fun k => match k with
  | 0 => .int
  | 1 => .array .int
  | 2 => .array .int
  | 3 => .int
  | 4 => .array .int
  | 5 => .array .int
  | 6 => .int
  | 7 => .array .int
  | 8 => .array .int
  | 9 => .array .int
  | 10 => .array .int
  | 11 => .int
  | 12 => .array .int
  | 13 => .array .int
  | 14 => .array .int
  | 15 => .array .int
  | 16 => .array .int
  | 17 => .array .int
  | 18 => .array .int
  | 19 => .array .int
  | 20 => .int
  | 21 => .int
  | 22 => .int
  | 23 => .int
  | 24 => .boolean
  | 25 => .array .int
  | 26 => .array .int
  | 27 => .array .int
  | 28 => .array .int
  | 29 => .array .int
  | 30 => .int
  | 31 => .array .int
  | 32 => .array (.long)
  | 33 => .array (.long)
  | 34 => .int
  | _ => .int
theorem n_Mo : ∀ a, a < 36 → ∀ b, b < 36 → a ≠ b → (F_Mo a).2.1 ≠ (F_Mo b).2.1 := by decide +kernel
theorem t_Mo_ok : ∀ k, k < 36 → parseFieldDescriptor (F_Mo k).2.2.1 = some (t_Mo k) := by decide +kernel
theorem sw_fs_Mo : ∀ j, j < 36 → defaultValue (t_Mo j) = vp_V [.int 0, .null, .null, .int 0, .null, .null, .int 0, .null, .null, .null, .null, .int 0, .null, .null, .null, .null, .null, .null, .null, .null, .int 0, .int 0, .int 0, .int 0, .int 0, .null, .null, .null, .null, .null, .int 0, .null, .null, .null, .int 0, .int 0] j := by
  intro j hj
  match j, hj with
  | 0, _ => rfl
  | 1, _ => rfl
  | 2, _ => rfl
  | 3, _ => rfl
  | 4, _ => rfl
  | 5, _ => rfl
  | 6, _ => rfl
  | 7, _ => rfl
  | 8, _ => rfl
  | 9, _ => rfl
  | 10, _ => rfl
  | 11, _ => rfl
  | 12, _ => rfl
  | 13, _ => rfl
  | 14, _ => rfl
  | 15, _ => rfl
  | 16, _ => rfl
  | 17, _ => rfl
  | 18, _ => rfl
  | 19, _ => rfl
  | 20, _ => rfl
  | 21, _ => rfl
  | 22, _ => rfl
  | 23, _ => rfl
  | 24, _ => rfl
  | 25, _ => rfl
  | 26, _ => rfl
  | 27, _ => rfl
  | 28, _ => rfl
  | 29, _ => rfl
  | 30, _ => rfl
  | 31, _ => rfl
  | 32, _ => rfl
  | 33, _ => rfl
  | 34, _ => rfl
  | 35, _ => rfl
  | j + 36, h => exact absurd h (by omega)
abbrev sw_cl : List vw_C := [(R_SW, F_SW, 8), (R_Pl, F_Pl, 11), (R_Ta, F_Ta, 4), (R_St, F_St, 4), (R_Cr, F_Cr, 5), (R_Mo, F_Mo, 36)]

def R_Math : String := "java/lang/Math"
abbrev b_Math_floorDiv : ByteArray := prog_8_method_47_code
def y_Math_floorDiv : MethodName := ⟨R_Math, "floorDiv", "(II)I"⟩
abbrev b_Math_floorMod : ByteArray := prog_8_method_50_code
def y_Math_floorMod : MethodName := ⟨R_Math, "floorMod", "(II)I"⟩
abbrev b_SW_isWithin : ByteArray := prog_1_method_19_code
def y_SW_isWithin : MethodName := ⟨R_SW, "isWithin", "(II)Z"⟩
abbrev b_SW_isPlaceOfWalker : ByteArray := prog_1_method_20_code
def y_SW_isPlaceOfWalker : MethodName := ⟨R_SW, "isPlaceOfWalker", "(II)Z"⟩
abbrev b_SW_isInput : ByteArray := prog_1_method_21_code
def y_SW_isInput : MethodName := ⟨R_SW, "isInput", "(III)Z"⟩
abbrev b_SW_cross : ByteArray := prog_1_method_23_code
def y_SW_cross : MethodName := ⟨R_SW, "cross", "(IIII)I"⟩
abbrev b_SW_cosineOf : ByteArray := prog_1_method_22_code
def y_SW_cosineOf : MethodName := ⟨R_SW, "cosineOf", "(I)I"⟩
abbrev b_Pl_hasVertex : ByteArray := prog_3_method_2_code
def y_Pl_hasVertex : MethodName := ⟨R_Pl, "hasVertex", "(I)Z"⟩
abbrev b_Pl_hasSector : ByteArray := prog_3_method_3_code
def y_Pl_hasSector : MethodName := ⟨R_Pl, "hasSector", "(I)Z"⟩
abbrev b_Pl_isTaken : ByteArray := prog_3_method_5_code
def y_Pl_isTaken : MethodName := ⟨R_Pl, "isTaken", "(II)Z"⟩
abbrev b_Pl_addVertex : ByteArray := prog_3_method_4_code
def y_Pl_addVertex : MethodName := ⟨R_Pl, "addVertex", "(II)I"⟩
abbrev b_Pl_addSector : ByteArray := prog_3_method_6_code
def y_Pl_addSector : MethodName := ⟨R_Pl, "addSector", "(II)I"⟩
abbrev b_Pl_addWall : ByteArray := prog_3_method_7_code
def y_Pl_addWall : MethodName := ⟨R_Pl, "addWall", "(IIII)I"⟩
abbrev b_Pl_removeLastWall : ByteArray := prog_3_method_8_code
def y_Pl_removeLastWall : MethodName := ⟨R_Pl, "removeLastWall", "()Z"⟩
abbrev b_Pl_makeEmpty : ByteArray := prog_3_method_9_code
def y_Pl_makeEmpty : MethodName := ⟨R_Pl, "makeEmpty", "()V"⟩
abbrev b_Pl_becomeCopyOf : ByteArray := prog_3_method_10_code
def y_Pl_becomeCopyOf : MethodName := ⟨R_Pl, "becomeCopyOf", "(LSectorWalk$Plan;)V"⟩
abbrev b_Ta_append : ByteArray := prog_5_method_2_code
def y_Ta_append : MethodName := ⟨R_Ta, "append", "(III)I"⟩
abbrev b_Ta_removeLast : ByteArray := prog_5_method_3_code
def y_Ta_removeLast : MethodName := ⟨R_Ta, "removeLast", "(I)Z"⟩
abbrev b_St_becomeCopyOf : ByteArray := prog_4_method_2_code
def y_St_becomeCopyOf : MethodName := ⟨R_St, "becomeCopyOf", "(LSectorWalk$Stand;)V"⟩
abbrev b_Cr_forget : ByteArray := prog_2_method_2_code
def y_Cr_forget : MethodName := ⟨R_Cr, "forget", "()V"⟩
abbrev b_Pl_side : ByteArray := prog_3_method_16_code
def y_Pl_side : MethodName := ⟨R_Pl, "side", "(III)I"⟩
abbrev b_Pl_straddles : ByteArray := prog_3_method_15_code
def y_Pl_straddles : MethodName := ⟨R_Pl, "straddles", "(IIII)Z"⟩
abbrev b_Pl_leaveAlike : ByteArray := prog_3_method_13_code
def y_Pl_leaveAlike : MethodName := ⟨R_Pl, "leaveAlike", "(III)Z"⟩
abbrev b_Pl_boxesMeet : ByteArray := prog_3_method_14_code
def y_Pl_boxesMeet : MethodName := ⟨R_Pl, "boxesMeet", "([IIIII)Z"⟩
abbrev b_Pl_clash : ByteArray := prog_3_method_12_code
def y_Pl_clash : MethodName := ⟨R_Pl, "clash", "(II)Z"⟩
abbrev b_Pl_firstWrongWall : ByteArray := prog_3_method_11_code
def y_Pl_firstWrongWall : MethodName := ⟨R_Pl, "firstWrongWall", "()I"⟩
abbrev b_Pl_stops : ByteArray := prog_3_method_17_code
def y_Pl_stops : MethodName := ⟨R_Pl, "stops", "(IZ)Z"⟩
abbrev b_Cr_comesFromFront : ByteArray := prog_2_method_8_code
def y_Cr_comesFromFront : MethodName := ⟨R_Cr, "comesFromFront", "(I)Z"⟩
abbrev b_Cr_isUpToOne : ByteArray := prog_2_method_5_code
def y_Cr_isUpToOne : MethodName := ⟨R_Cr, "isUpToOne", "(II)Z"⟩
abbrev b_Cr_isFarther : ByteArray := prog_2_method_7_code
def y_Cr_isFarther : MethodName := ⟨R_Cr, "isFarther", "(II)Z"⟩
abbrev b_Cr_sectorBehind : ByteArray := prog_2_method_9_code
def y_Cr_sectorBehind : MethodName := ⟨R_Cr, "sectorBehind", "(LSectorWalk$Plan;I)I"⟩
abbrev b_Cr_insert : ByteArray := prog_2_method_6_code
def y_Cr_insert : MethodName := ⟨R_Cr, "insert", "(I)V"⟩
abbrev b_Cr_isCrossed : ByteArray := prog_2_method_4_code
def y_Cr_isCrossed : MethodName := ⟨R_Cr, "isCrossed", "(LSectorWalk$Plan;ILSectorWalk$Stand;II)Z"⟩
abbrev b_Cr_fill : ByteArray := prog_2_method_3_code
def y_Cr_fill : MethodName := ⟨R_Cr, "fill", "(LSectorWalk$Plan;LSectorWalk$Stand;II)V"⟩
abbrev b_St_init : ByteArray := prog_4_method_1_code
def y_St_init : MethodName := ⟨R_St, "<init>", "()V"⟩
abbrev b_Ta_init : ByteArray := prog_5_method_1_code
def y_Ta_init : MethodName := ⟨R_Ta, "<init>", "()V"⟩
abbrev b_Cr_init : ByteArray := prog_2_method_1_code
def y_Cr_init : MethodName := ⟨R_Cr, "<init>", "()V"⟩
abbrev b_Pl_init : ByteArray := prog_3_method_1_code
def y_Pl_init : MethodName := ⟨R_Pl, "<init>", "()V"⟩
abbrev b_SW_init : ByteArray := prog_1_method_1_code
def y_SW_init : MethodName := ⟨R_SW, "<init>", "()V"⟩
abbrev b_SW_vertex : ByteArray := prog_1_method_2_code
def y_SW_vertex : MethodName := ⟨R_SW, "vertex", "(II)I"⟩
abbrev b_SW_sector : ByteArray := prog_1_method_3_code
def y_SW_sector : MethodName := ⟨R_SW, "sector", "(II)I"⟩
abbrev b_SW_wall : ByteArray := prog_1_method_4_code
def y_SW_wall : MethodName := ⟨R_SW, "wall", "(IIII)I"⟩
abbrev b_SW_drop : ByteArray := prog_1_method_5_code
def y_SW_drop : MethodName := ⟨R_SW, "drop", "()Z"⟩
abbrev b_SW_clear : ByteArray := prog_1_method_6_code
def y_SW_clear : MethodName := ⟨R_SW, "clear", "()V"⟩
abbrev b_SW_input : ByteArray := prog_1_method_9_code
def y_SW_input : MethodName := ⟨R_SW, "input", "(III)I"⟩
abbrev b_SW_undo : ByteArray := prog_1_method_10_code
def y_SW_undo : MethodName := ⟨R_SW, "undo", "(I)Z"⟩
abbrev b_SW_crossed : ByteArray := prog_1_method_13_code
def y_SW_crossed : MethodName := ⟨R_SW, "crossed", "(I)I"⟩
abbrev b_SW_stopper : ByteArray := prog_1_method_14_code
def y_SW_stopper : MethodName := ⟨R_SW, "stopper", "()I"⟩
abbrev b_SW_walker : ByteArray := prog_1_method_15_code
def y_SW_walker : MethodName := ⟨R_SW, "walker", "(I)I"⟩
abbrev b_SW_look : ByteArray := prog_1_method_16_code
def y_SW_look : MethodName := ⟨R_SW, "look", "(I)I"⟩
abbrev b_SW_returnToOrigin : ByteArray := prog_1_method_17_code
def y_SW_returnToOrigin : MethodName := ⟨R_SW, "returnToOrigin", "()V"⟩
abbrev b_SW_start : ByteArray := prog_1_method_8_code
def y_SW_start : MethodName := ⟨R_SW, "start", "(IIII)Z"⟩
abbrev b_SW_build : ByteArray := prog_1_method_7_code
def y_SW_build : MethodName := ⟨R_SW, "build", "()I"⟩
abbrev b_SW_walk : ByteArray := prog_1_method_18_code
def y_SW_walk : MethodName := ⟨R_SW, "walk", "(III)I"⟩
abbrev b_SW_step : ByteArray := prog_1_method_12_code
def y_SW_step : MethodName := ⟨R_SW, "step", "(III)I"⟩
abbrev b_SW_play : ByteArray := prog_1_method_11_code
def y_SW_play : MethodName := ⟨R_SW, "play", "(I)I"⟩
def sw_words : List Cond := lw_tbl.filter goodWord
theorem sw_good : GoodIn sw_words sw_words := fun w h => ⟨h, good_of_word (List.mem_filter.mp h).2⟩
theorem sw_sub : ∀ w ∈ sw_words, w ∈ lw_tbl := fun w h => (List.mem_filter.mp h).1
theorem kc_Math_floorDiv : Cond.code y_Math_floorDiv b_Math_floorDiv 3 (some .int) ∈ sw_words := List.mem_filter.mpr ⟨List.mem_append_right _ (List.mem_of_getElem? (i := 320) rfl), rfl⟩
abbrev w_Math_floorDiv : List Cond := .code y_Math_floorDiv b_Math_floorDiv 3 (some .int) :: sw_words
theorem yd_Math_floorDiv : y_Math_floorDiv.cls ≠ "java/lang/invoke/MethodHandle" ∧ y_Math_floorDiv.cls ≠ "java/lang/invoke/VarHandle" ∧ (parseMethodDescriptor y_Math_floorDiv.desc).map (fun d => d.parameters.length) = some 2 := by decide +kernel
theorem kc_Math_floorMod : Cond.code y_Math_floorMod b_Math_floorMod 3 (some .int) ∈ sw_words := List.mem_filter.mpr ⟨List.mem_append_right _ (List.mem_of_getElem? (i := 312) rfl), rfl⟩
abbrev w_Math_floorMod : List Cond := .code y_Math_floorMod b_Math_floorMod 3 (some .int) :: sw_words
theorem yd_Math_floorMod : y_Math_floorMod.cls ≠ "java/lang/invoke/MethodHandle" ∧ y_Math_floorMod.cls ≠ "java/lang/invoke/VarHandle" ∧ (parseMethodDescriptor y_Math_floorMod.desc).map (fun d => d.parameters.length) = some 2 := by decide +kernel
theorem kc_SW_isWithin : Cond.code y_SW_isWithin b_SW_isWithin 2 (some .boolean) ∈ sw_words := List.mem_filter.mpr ⟨List.mem_append_right _ (List.mem_of_getElem? (i := 172) rfl), rfl⟩
abbrev w_SW_isWithin : List Cond := .code y_SW_isWithin b_SW_isWithin 2 (some .boolean) :: sw_words
theorem yd_SW_isWithin : y_SW_isWithin.cls ≠ "java/lang/invoke/MethodHandle" ∧ y_SW_isWithin.cls ≠ "java/lang/invoke/VarHandle" ∧ (parseMethodDescriptor y_SW_isWithin.desc).map (fun d => d.parameters.length) = some 2 := by decide +kernel
theorem kc_SW_isPlaceOfWalker : Cond.code y_SW_isPlaceOfWalker b_SW_isPlaceOfWalker 2 (some .boolean) ∈ sw_words := List.mem_filter.mpr ⟨List.mem_append_right _ (List.mem_of_getElem? (i := 274) rfl), rfl⟩
abbrev w_SW_isPlaceOfWalker : List Cond := .code y_SW_isPlaceOfWalker b_SW_isPlaceOfWalker 2 (some .boolean) :: sw_words
theorem yd_SW_isPlaceOfWalker : y_SW_isPlaceOfWalker.cls ≠ "java/lang/invoke/MethodHandle" ∧ y_SW_isPlaceOfWalker.cls ≠ "java/lang/invoke/VarHandle" ∧ (parseMethodDescriptor y_SW_isPlaceOfWalker.desc).map (fun d => d.parameters.length) = some 2 := by decide +kernel
theorem kc_SW_isInput : Cond.code y_SW_isInput b_SW_isInput 3 (some .boolean) ∈ sw_words := List.mem_filter.mpr ⟨List.mem_append_right _ (List.mem_of_getElem? (i := 289) rfl), rfl⟩
abbrev w_SW_isInput : List Cond := .code y_SW_isInput b_SW_isInput 3 (some .boolean) :: sw_words
theorem yd_SW_isInput : y_SW_isInput.cls ≠ "java/lang/invoke/MethodHandle" ∧ y_SW_isInput.cls ≠ "java/lang/invoke/VarHandle" ∧ (parseMethodDescriptor y_SW_isInput.desc).map (fun d => d.parameters.length) = some 3 := by decide +kernel
theorem kc_SW_cross : Cond.code y_SW_cross b_SW_cross 4 (some .int) ∈ sw_words := List.mem_filter.mpr ⟨List.mem_append_right _ (List.mem_of_getElem? (i := 239) rfl), rfl⟩
abbrev w_SW_cross : List Cond := .code y_SW_cross b_SW_cross 4 (some .int) :: sw_words
theorem yd_SW_cross : y_SW_cross.cls ≠ "java/lang/invoke/MethodHandle" ∧ y_SW_cross.cls ≠ "java/lang/invoke/VarHandle" ∧ (parseMethodDescriptor y_SW_cross.desc).map (fun d => d.parameters.length) = some 4 := by decide +kernel
theorem kc_SW_cosineOf : Cond.code y_SW_cosineOf b_SW_cosineOf 3 (some .int) ∈ sw_words := List.mem_filter.mpr ⟨List.mem_append_right _ (List.mem_of_getElem? (i := 315) rfl), rfl⟩
abbrev w_SW_cosineOf : List Cond := .code y_SW_cosineOf b_SW_cosineOf 3 (some .int) :: sw_words
theorem yd_SW_cosineOf : y_SW_cosineOf.cls ≠ "java/lang/invoke/MethodHandle" ∧ y_SW_cosineOf.cls ≠ "java/lang/invoke/VarHandle" ∧ (parseMethodDescriptor y_SW_cosineOf.desc).map (fun d => d.parameters.length) = some 1 := by decide +kernel
theorem kc_Pl_hasVertex : Cond.code y_Pl_hasVertex b_Pl_hasVertex 2 (some .boolean) ∈ sw_words := List.mem_filter.mpr ⟨List.mem_append_right _ (List.mem_of_getElem? (i := 196) rfl), rfl⟩
abbrev w_Pl_hasVertex : List Cond := .code y_Pl_hasVertex b_Pl_hasVertex 2 (some .boolean) :: sw_words
theorem yd_Pl_hasVertex : y_Pl_hasVertex.cls ≠ "java/lang/invoke/MethodHandle" ∧ y_Pl_hasVertex.cls ≠ "java/lang/invoke/VarHandle" ∧ (parseMethodDescriptor y_Pl_hasVertex.desc).map (fun d => d.parameters.length) = some 1 := by decide +kernel
theorem kc_Pl_hasSector : Cond.code y_Pl_hasSector b_Pl_hasSector 2 (some .boolean) ∈ sw_words := List.mem_filter.mpr ⟨List.mem_append_right _ (List.mem_of_getElem? (i := 200) rfl), rfl⟩
abbrev w_Pl_hasSector : List Cond := .code y_Pl_hasSector b_Pl_hasSector 2 (some .boolean) :: sw_words
theorem yd_Pl_hasSector : y_Pl_hasSector.cls ≠ "java/lang/invoke/MethodHandle" ∧ y_Pl_hasSector.cls ≠ "java/lang/invoke/VarHandle" ∧ (parseMethodDescriptor y_Pl_hasSector.desc).map (fun d => d.parameters.length) = some 1 := by decide +kernel
theorem kc_Pl_isTaken : Cond.code y_Pl_isTaken b_Pl_isTaken 4 (some .boolean) ∈ sw_words := List.mem_filter.mpr ⟨List.mem_append_right _ (List.mem_of_getElem? (i := 180) rfl), rfl⟩
abbrev w_Pl_isTaken : List Cond := .code y_Pl_isTaken b_Pl_isTaken 4 (some .boolean) :: sw_words
theorem yd_Pl_isTaken : y_Pl_isTaken.cls ≠ "java/lang/invoke/MethodHandle" ∧ y_Pl_isTaken.cls ≠ "java/lang/invoke/VarHandle" ∧ (parseMethodDescriptor y_Pl_isTaken.desc).map (fun d => d.parameters.length) = some 2 := by decide +kernel
theorem kc_Pl_addVertex : Cond.code y_Pl_addVertex b_Pl_addVertex 3 (some .int) ∈ sw_words := List.mem_filter.mpr ⟨List.mem_append_right _ (List.mem_of_getElem? (i := 176) rfl), rfl⟩
abbrev w_Pl_addVertex : List Cond := .code y_Pl_addVertex b_Pl_addVertex 3 (some .int) :: sw_words
theorem yd_Pl_addVertex : y_Pl_addVertex.cls ≠ "java/lang/invoke/MethodHandle" ∧ y_Pl_addVertex.cls ≠ "java/lang/invoke/VarHandle" ∧ (parseMethodDescriptor y_Pl_addVertex.desc).map (fun d => d.parameters.length) = some 2 := by decide +kernel
theorem kc_Pl_addSector : Cond.code y_Pl_addSector b_Pl_addSector 3 (some .int) ∈ sw_words := List.mem_filter.mpr ⟨List.mem_append_right _ (List.mem_of_getElem? (i := 188) rfl), rfl⟩
abbrev w_Pl_addSector : List Cond := .code y_Pl_addSector b_Pl_addSector 3 (some .int) :: sw_words
theorem yd_Pl_addSector : y_Pl_addSector.cls ≠ "java/lang/invoke/MethodHandle" ∧ y_Pl_addSector.cls ≠ "java/lang/invoke/VarHandle" ∧ (parseMethodDescriptor y_Pl_addSector.desc).map (fun d => d.parameters.length) = some 2 := by decide +kernel
theorem kc_Pl_addWall : Cond.code y_Pl_addWall b_Pl_addWall 5 (some .int) ∈ sw_words := List.mem_filter.mpr ⟨List.mem_append_right _ (List.mem_of_getElem? (i := 204) rfl), rfl⟩
abbrev w_Pl_addWall : List Cond := .code y_Pl_addWall b_Pl_addWall 5 (some .int) :: sw_words
theorem yd_Pl_addWall : y_Pl_addWall.cls ≠ "java/lang/invoke/MethodHandle" ∧ y_Pl_addWall.cls ≠ "java/lang/invoke/VarHandle" ∧ (parseMethodDescriptor y_Pl_addWall.desc).map (fun d => d.parameters.length) = some 4 := by decide +kernel
theorem kc_Pl_removeLastWall : Cond.code y_Pl_removeLastWall b_Pl_removeLastWall 1 (some .boolean) ∈ sw_words := List.mem_filter.mpr ⟨List.mem_append_right _ (List.mem_of_getElem? (i := 212) rfl), rfl⟩
abbrev w_Pl_removeLastWall : List Cond := .code y_Pl_removeLastWall b_Pl_removeLastWall 1 (some .boolean) :: sw_words
theorem yd_Pl_removeLastWall : y_Pl_removeLastWall.cls ≠ "java/lang/invoke/MethodHandle" ∧ y_Pl_removeLastWall.cls ≠ "java/lang/invoke/VarHandle" ∧ (parseMethodDescriptor y_Pl_removeLastWall.desc).map (fun d => d.parameters.length) = some 0 := by decide +kernel
theorem kc_Pl_makeEmpty : Cond.code y_Pl_makeEmpty b_Pl_makeEmpty 1 none ∈ sw_words := List.mem_filter.mpr ⟨List.mem_append_right _ (List.mem_of_getElem? (i := 220) rfl), rfl⟩
abbrev w_Pl_makeEmpty : List Cond := .code y_Pl_makeEmpty b_Pl_makeEmpty 1 none :: sw_words
theorem yd_Pl_makeEmpty : y_Pl_makeEmpty.cls ≠ "java/lang/invoke/MethodHandle" ∧ y_Pl_makeEmpty.cls ≠ "java/lang/invoke/VarHandle" ∧ (parseMethodDescriptor y_Pl_makeEmpty.desc).map (fun d => d.parameters.length) = some 0 := by decide +kernel
theorem kc_Pl_becomeCopyOf : Cond.code y_Pl_becomeCopyOf b_Pl_becomeCopyOf 2 none ∈ sw_words := List.mem_filter.mpr ⟨List.mem_append_right _ (List.mem_of_getElem? (i := 260) rfl), rfl⟩
abbrev w_Pl_becomeCopyOf : List Cond := .code y_Pl_becomeCopyOf b_Pl_becomeCopyOf 2 none :: sw_words
theorem yd_Pl_becomeCopyOf : y_Pl_becomeCopyOf.cls ≠ "java/lang/invoke/MethodHandle" ∧ y_Pl_becomeCopyOf.cls ≠ "java/lang/invoke/VarHandle" ∧ (parseMethodDescriptor y_Pl_becomeCopyOf.desc).map (fun d => d.parameters.length) = some 1 := by decide +kernel
theorem kc_Ta_append : Cond.code y_Ta_append b_Ta_append 4 (some .int) ∈ sw_words := List.mem_filter.mpr ⟨List.mem_append_right _ (List.mem_of_getElem? (i := 293) rfl), rfl⟩
abbrev w_Ta_append : List Cond := .code y_Ta_append b_Ta_append 4 (some .int) :: sw_words
theorem yd_Ta_append : y_Ta_append.cls ≠ "java/lang/invoke/MethodHandle" ∧ y_Ta_append.cls ≠ "java/lang/invoke/VarHandle" ∧ (parseMethodDescriptor y_Ta_append.desc).map (fun d => d.parameters.length) = some 3 := by decide +kernel
theorem kc_Ta_removeLast : Cond.code y_Ta_removeLast b_Ta_removeLast 2 (some .boolean) ∈ sw_words := List.mem_filter.mpr ⟨List.mem_append_right _ (List.mem_of_getElem? (i := 301) rfl), rfl⟩
abbrev w_Ta_removeLast : List Cond := .code y_Ta_removeLast b_Ta_removeLast 2 (some .boolean) :: sw_words
theorem yd_Ta_removeLast : y_Ta_removeLast.cls ≠ "java/lang/invoke/MethodHandle" ∧ y_Ta_removeLast.cls ≠ "java/lang/invoke/VarHandle" ∧ (parseMethodDescriptor y_Ta_removeLast.desc).map (fun d => d.parameters.length) = some 1 := by decide +kernel
theorem kc_St_becomeCopyOf : Cond.code y_St_becomeCopyOf b_St_becomeCopyOf 2 none ∈ sw_words := List.mem_filter.mpr ⟨List.mem_append_right _ (List.mem_of_getElem? (i := 282) rfl), rfl⟩
abbrev w_St_becomeCopyOf : List Cond := .code y_St_becomeCopyOf b_St_becomeCopyOf 2 none :: sw_words
theorem yd_St_becomeCopyOf : y_St_becomeCopyOf.cls ≠ "java/lang/invoke/MethodHandle" ∧ y_St_becomeCopyOf.cls ≠ "java/lang/invoke/VarHandle" ∧ (parseMethodDescriptor y_St_becomeCopyOf.desc).map (fun d => d.parameters.length) = some 1 := by decide +kernel
theorem kc_Cr_forget : Cond.code y_Cr_forget b_Cr_forget 1 none ∈ sw_words := List.mem_filter.mpr ⟨List.mem_append_right _ (List.mem_of_getElem? (i := 267) rfl), rfl⟩
abbrev w_Cr_forget : List Cond := .code y_Cr_forget b_Cr_forget 1 none :: sw_words
theorem yd_Cr_forget : y_Cr_forget.cls ≠ "java/lang/invoke/MethodHandle" ∧ y_Cr_forget.cls ≠ "java/lang/invoke/VarHandle" ∧ (parseMethodDescriptor y_Cr_forget.desc).map (fun d => d.parameters.length) = some 0 := by decide +kernel
theorem kc_Pl_side : Cond.code y_Pl_side b_Pl_side 4 (some .int) ∈ sw_words := List.mem_filter.mpr ⟨List.mem_append_right _ (List.mem_of_getElem? (i := 256) rfl), rfl⟩
abbrev w_Pl_side : List Cond := .code y_Pl_side b_Pl_side 4 (some .int) :: sw_words
theorem yd_Pl_side : y_Pl_side.cls ≠ "java/lang/invoke/MethodHandle" ∧ y_Pl_side.cls ≠ "java/lang/invoke/VarHandle" ∧ (parseMethodDescriptor y_Pl_side.desc).map (fun d => d.parameters.length) = some 3 := by decide +kernel
theorem kc_Pl_straddles : Cond.code y_Pl_straddles b_Pl_straddles 7 (some .boolean) ∈ sw_words := List.mem_filter.mpr ⟨List.mem_append_right _ (List.mem_of_getElem? (i := 252) rfl), rfl⟩
abbrev w_Pl_straddles : List Cond := .code y_Pl_straddles b_Pl_straddles 7 (some .boolean) :: sw_words
theorem yd_Pl_straddles : y_Pl_straddles.cls ≠ "java/lang/invoke/MethodHandle" ∧ y_Pl_straddles.cls ≠ "java/lang/invoke/VarHandle" ∧ (parseMethodDescriptor y_Pl_straddles.desc).map (fun d => d.parameters.length) = some 4 := by decide +kernel
theorem kc_Pl_leaveAlike : Cond.code y_Pl_leaveAlike b_Pl_leaveAlike 8 (some .boolean) ∈ sw_words := List.mem_filter.mpr ⟨List.mem_append_right _ (List.mem_of_getElem? (i := 236) rfl), rfl⟩
abbrev w_Pl_leaveAlike : List Cond := .code y_Pl_leaveAlike b_Pl_leaveAlike 8 (some .boolean) :: sw_words
theorem yd_Pl_leaveAlike : y_Pl_leaveAlike.cls ≠ "java/lang/invoke/MethodHandle" ∧ y_Pl_leaveAlike.cls ≠ "java/lang/invoke/VarHandle" ∧ (parseMethodDescriptor y_Pl_leaveAlike.desc).map (fun d => d.parameters.length) = some 3 := by decide +kernel
theorem kc_Pl_boxesMeet : Cond.code y_Pl_boxesMeet b_Pl_boxesMeet 5 (some .boolean) ∈ sw_words := List.mem_filter.mpr ⟨List.mem_append_right _ (List.mem_of_getElem? (i := 242) rfl), rfl⟩
abbrev w_Pl_boxesMeet : List Cond := .code y_Pl_boxesMeet b_Pl_boxesMeet 5 (some .boolean) :: sw_words
theorem yd_Pl_boxesMeet : y_Pl_boxesMeet.cls ≠ "java/lang/invoke/MethodHandle" ∧ y_Pl_boxesMeet.cls ≠ "java/lang/invoke/VarHandle" ∧ (parseMethodDescriptor y_Pl_boxesMeet.desc).map (fun d => d.parameters.length) = some 5 := by decide +kernel
theorem kc_Pl_clash : Cond.code y_Pl_clash b_Pl_clash 7 (some .boolean) ∈ sw_words := List.mem_filter.mpr ⟨List.mem_append_right _ (List.mem_of_getElem? (i := 232) rfl), rfl⟩
abbrev w_Pl_clash : List Cond := .code y_Pl_clash b_Pl_clash 7 (some .boolean) :: sw_words
theorem yd_Pl_clash : y_Pl_clash.cls ≠ "java/lang/invoke/MethodHandle" ∧ y_Pl_clash.cls ≠ "java/lang/invoke/VarHandle" ∧ (parseMethodDescriptor y_Pl_clash.desc).map (fun d => d.parameters.length) = some 2 := by decide +kernel
theorem kc_Pl_firstWrongWall : Cond.code y_Pl_firstWrongWall b_Pl_firstWrongWall 3 (some .int) ∈ sw_words := List.mem_filter.mpr ⟨List.mem_append_right _ (List.mem_of_getElem? (i := 228) rfl), rfl⟩
abbrev w_Pl_firstWrongWall : List Cond := .code y_Pl_firstWrongWall b_Pl_firstWrongWall 3 (some .int) :: sw_words
theorem yd_Pl_firstWrongWall : y_Pl_firstWrongWall.cls ≠ "java/lang/invoke/MethodHandle" ∧ y_Pl_firstWrongWall.cls ≠ "java/lang/invoke/VarHandle" ∧ (parseMethodDescriptor y_Pl_firstWrongWall.desc).map (fun d => d.parameters.length) = some 0 := by decide +kernel
theorem kc_Pl_stops : Cond.code y_Pl_stops b_Pl_stops 6 (some .boolean) ∈ sw_words := List.mem_filter.mpr ⟨List.mem_append_right _ (List.mem_of_getElem? (i := 351) rfl), rfl⟩
abbrev w_Pl_stops : List Cond := .code y_Pl_stops b_Pl_stops 6 (some .boolean) :: sw_words
theorem yd_Pl_stops : y_Pl_stops.cls ≠ "java/lang/invoke/MethodHandle" ∧ y_Pl_stops.cls ≠ "java/lang/invoke/VarHandle" ∧ (parseMethodDescriptor y_Pl_stops.desc).map (fun d => d.parameters.length) = some 2 := by decide +kernel
theorem kc_Cr_comesFromFront : Cond.code y_Cr_comesFromFront b_Cr_comesFromFront 2 (some .boolean) ∈ sw_words := List.mem_filter.mpr ⟨List.mem_append_right _ (List.mem_of_getElem? (i := 347) rfl), rfl⟩
abbrev w_Cr_comesFromFront : List Cond := .code y_Cr_comesFromFront b_Cr_comesFromFront 2 (some .boolean) :: sw_words
theorem yd_Cr_comesFromFront : y_Cr_comesFromFront.cls ≠ "java/lang/invoke/MethodHandle" ∧ y_Cr_comesFromFront.cls ≠ "java/lang/invoke/VarHandle" ∧ (parseMethodDescriptor y_Cr_comesFromFront.desc).map (fun d => d.parameters.length) = some 1 := by decide +kernel
theorem kc_Cr_isUpToOne : Cond.code y_Cr_isUpToOne b_Cr_isUpToOne 2 (some .boolean) ∈ sw_words := List.mem_filter.mpr ⟨List.mem_append_right _ (List.mem_of_getElem? (i := 332) rfl), rfl⟩
abbrev w_Cr_isUpToOne : List Cond := .code y_Cr_isUpToOne b_Cr_isUpToOne 2 (some .boolean) :: sw_words
theorem yd_Cr_isUpToOne : y_Cr_isUpToOne.cls ≠ "java/lang/invoke/MethodHandle" ∧ y_Cr_isUpToOne.cls ≠ "java/lang/invoke/VarHandle" ∧ (parseMethodDescriptor y_Cr_isUpToOne.desc).map (fun d => d.parameters.length) = some 2 := by decide +kernel
theorem kc_Cr_isFarther : Cond.code y_Cr_isFarther b_Cr_isFarther 7 (some .boolean) ∈ sw_words := List.mem_filter.mpr ⟨List.mem_append_right _ (List.mem_of_getElem? (i := 340) rfl), rfl⟩
abbrev w_Cr_isFarther : List Cond := .code y_Cr_isFarther b_Cr_isFarther 7 (some .boolean) :: sw_words
theorem yd_Cr_isFarther : y_Cr_isFarther.cls ≠ "java/lang/invoke/MethodHandle" ∧ y_Cr_isFarther.cls ≠ "java/lang/invoke/VarHandle" ∧ (parseMethodDescriptor y_Cr_isFarther.desc).map (fun d => d.parameters.length) = some 2 := by decide +kernel
theorem kc_Cr_sectorBehind : Cond.code y_Cr_sectorBehind b_Cr_sectorBehind 4 (some .int) ∈ sw_words := List.mem_filter.mpr ⟨List.mem_append_right _ (List.mem_of_getElem? (i := 355) rfl), rfl⟩
abbrev w_Cr_sectorBehind : List Cond := .code y_Cr_sectorBehind b_Cr_sectorBehind 4 (some .int) :: sw_words
theorem yd_Cr_sectorBehind : y_Cr_sectorBehind.cls ≠ "java/lang/invoke/MethodHandle" ∧ y_Cr_sectorBehind.cls ≠ "java/lang/invoke/VarHandle" ∧ (parseMethodDescriptor y_Cr_sectorBehind.desc).map (fun d => d.parameters.length) = some 2 := by decide +kernel
theorem kc_Cr_insert : Cond.code y_Cr_insert b_Cr_insert 3 none ∈ sw_words := List.mem_filter.mpr ⟨List.mem_append_right _ (List.mem_of_getElem? (i := 336) rfl), rfl⟩
abbrev w_Cr_insert : List Cond := .code y_Cr_insert b_Cr_insert 3 none :: sw_words
theorem yd_Cr_insert : y_Cr_insert.cls ≠ "java/lang/invoke/MethodHandle" ∧ y_Cr_insert.cls ≠ "java/lang/invoke/VarHandle" ∧ (parseMethodDescriptor y_Cr_insert.desc).map (fun d => d.parameters.length) = some 1 := by decide +kernel
theorem kc_Cr_isCrossed : Cond.code y_Cr_isCrossed b_Cr_isCrossed 12 (some .boolean) ∈ sw_words := List.mem_filter.mpr ⟨List.mem_append_right _ (List.mem_of_getElem? (i := 328) rfl), rfl⟩
abbrev w_Cr_isCrossed : List Cond := .code y_Cr_isCrossed b_Cr_isCrossed 12 (some .boolean) :: sw_words
theorem yd_Cr_isCrossed : y_Cr_isCrossed.cls ≠ "java/lang/invoke/MethodHandle" ∧ y_Cr_isCrossed.cls ≠ "java/lang/invoke/VarHandle" ∧ (parseMethodDescriptor y_Cr_isCrossed.desc).map (fun d => d.parameters.length) = some 5 := by decide +kernel
theorem kc_Cr_fill : Cond.code y_Cr_fill b_Cr_fill 6 none ∈ sw_words := List.mem_filter.mpr ⟨List.mem_append_right _ (List.mem_of_getElem? (i := 324) rfl), rfl⟩
abbrev w_Cr_fill : List Cond := .code y_Cr_fill b_Cr_fill 6 none :: sw_words
theorem yd_Cr_fill : y_Cr_fill.cls ≠ "java/lang/invoke/MethodHandle" ∧ y_Cr_fill.cls ≠ "java/lang/invoke/VarHandle" ∧ (parseMethodDescriptor y_Cr_fill.desc).map (fun d => d.parameters.length) = some 4 := by decide +kernel
theorem kc_St_init : Cond.code y_St_init b_St_init 1 none ∈ sw_words := List.mem_filter.mpr ⟨List.mem_append_right _ (List.mem_of_getElem? (i := 95) rfl), rfl⟩
abbrev w_St_init : List Cond := .code y_St_init b_St_init 1 none :: sw_words
theorem yd_St_init : y_St_init.cls ≠ "java/lang/invoke/MethodHandle" ∧ y_St_init.cls ≠ "java/lang/invoke/VarHandle" ∧ (parseMethodDescriptor y_St_init.desc).map (fun d => d.parameters.length) = some 0 := by decide +kernel
theorem kc_Ta_init : Cond.code y_Ta_init b_Ta_init 1 none ∈ sw_words := List.mem_filter.mpr ⟨List.mem_append_right _ (List.mem_of_getElem? (i := 72) rfl), rfl⟩
abbrev w_Ta_init : List Cond := .code y_Ta_init b_Ta_init 1 none :: sw_words
theorem yd_Ta_init : y_Ta_init.cls ≠ "java/lang/invoke/MethodHandle" ∧ y_Ta_init.cls ≠ "java/lang/invoke/VarHandle" ∧ (parseMethodDescriptor y_Ta_init.desc).map (fun d => d.parameters.length) = some 0 := by decide +kernel
theorem kc_Cr_init : Cond.code y_Cr_init b_Cr_init 1 none ∈ sw_words := List.mem_filter.mpr ⟨List.mem_append_right _ (List.mem_of_getElem? (i := 120) rfl), rfl⟩
abbrev w_Cr_init : List Cond := .code y_Cr_init b_Cr_init 1 none :: sw_words
theorem yd_Cr_init : y_Cr_init.cls ≠ "java/lang/invoke/MethodHandle" ∧ y_Cr_init.cls ≠ "java/lang/invoke/VarHandle" ∧ (parseMethodDescriptor y_Cr_init.desc).map (fun d => d.parameters.length) = some 0 := by decide +kernel
theorem kc_Pl_init : Cond.code y_Pl_init b_Pl_init 1 none ∈ sw_words := List.mem_filter.mpr ⟨List.mem_append_right _ (List.mem_of_getElem? (i := 21) rfl), rfl⟩
abbrev w_Pl_init : List Cond := .code y_Pl_init b_Pl_init 1 none :: sw_words
theorem yd_Pl_init : y_Pl_init.cls ≠ "java/lang/invoke/MethodHandle" ∧ y_Pl_init.cls ≠ "java/lang/invoke/VarHandle" ∧ (parseMethodDescriptor y_Pl_init.desc).map (fun d => d.parameters.length) = some 0 := by decide +kernel
theorem kc_SW_init : Cond.code y_SW_init b_SW_init 1 none ∈ sw_words := List.mem_filter.mpr ⟨List.mem_append_right _ (List.mem_of_getElem? (i := 13) rfl), rfl⟩
abbrev w_SW_init : List Cond := .code y_SW_init b_SW_init 1 none :: sw_words
theorem yd_SW_init : y_SW_init.cls ≠ "java/lang/invoke/MethodHandle" ∧ y_SW_init.cls ≠ "java/lang/invoke/VarHandle" ∧ (parseMethodDescriptor y_SW_init.desc).map (fun d => d.parameters.length) = some 0 := by decide +kernel
theorem kc_SW_vertex : Cond.code y_SW_vertex b_SW_vertex 3 (some .int) ∈ sw_words := List.mem_filter.mpr ⟨List.mem_append_right _ (List.mem_of_getElem? (i := 169) rfl), rfl⟩
abbrev w_SW_vertex : List Cond := .code y_SW_vertex b_SW_vertex 3 (some .int) :: sw_words
theorem yd_SW_vertex : y_SW_vertex.cls ≠ "java/lang/invoke/MethodHandle" ∧ y_SW_vertex.cls ≠ "java/lang/invoke/VarHandle" ∧ (parseMethodDescriptor y_SW_vertex.desc).map (fun d => d.parameters.length) = some 2 := by decide +kernel
theorem kc_SW_sector : Cond.code y_SW_sector b_SW_sector 3 (some .int) ∈ sw_words := List.mem_filter.mpr ⟨List.mem_append_right _ (List.mem_of_getElem? (i := 184) rfl), rfl⟩
abbrev w_SW_sector : List Cond := .code y_SW_sector b_SW_sector 3 (some .int) :: sw_words
theorem yd_SW_sector : y_SW_sector.cls ≠ "java/lang/invoke/MethodHandle" ∧ y_SW_sector.cls ≠ "java/lang/invoke/VarHandle" ∧ (parseMethodDescriptor y_SW_sector.desc).map (fun d => d.parameters.length) = some 2 := by decide +kernel
theorem kc_SW_wall : Cond.code y_SW_wall b_SW_wall 5 (some .int) ∈ sw_words := List.mem_filter.mpr ⟨List.mem_append_right _ (List.mem_of_getElem? (i := 192) rfl), rfl⟩
abbrev w_SW_wall : List Cond := .code y_SW_wall b_SW_wall 5 (some .int) :: sw_words
theorem yd_SW_wall : y_SW_wall.cls ≠ "java/lang/invoke/MethodHandle" ∧ y_SW_wall.cls ≠ "java/lang/invoke/VarHandle" ∧ (parseMethodDescriptor y_SW_wall.desc).map (fun d => d.parameters.length) = some 4 := by decide +kernel
theorem kc_SW_drop : Cond.code y_SW_drop b_SW_drop 1 (some .boolean) ∈ sw_words := List.mem_filter.mpr ⟨List.mem_append_right _ (List.mem_of_getElem? (i := 208) rfl), rfl⟩
abbrev w_SW_drop : List Cond := .code y_SW_drop b_SW_drop 1 (some .boolean) :: sw_words
theorem yd_SW_drop : y_SW_drop.cls ≠ "java/lang/invoke/MethodHandle" ∧ y_SW_drop.cls ≠ "java/lang/invoke/VarHandle" ∧ (parseMethodDescriptor y_SW_drop.desc).map (fun d => d.parameters.length) = some 0 := by decide +kernel
theorem kc_SW_clear : Cond.code y_SW_clear b_SW_clear 1 none ∈ sw_words := List.mem_filter.mpr ⟨List.mem_append_right _ (List.mem_of_getElem? (i := 216) rfl), rfl⟩
abbrev w_SW_clear : List Cond := .code y_SW_clear b_SW_clear 1 none :: sw_words
theorem yd_SW_clear : y_SW_clear.cls ≠ "java/lang/invoke/MethodHandle" ∧ y_SW_clear.cls ≠ "java/lang/invoke/VarHandle" ∧ (parseMethodDescriptor y_SW_clear.desc).map (fun d => d.parameters.length) = some 0 := by decide +kernel
theorem kc_SW_input : Cond.code y_SW_input b_SW_input 4 (some .int) ∈ sw_words := List.mem_filter.mpr ⟨List.mem_append_right _ (List.mem_of_getElem? (i := 286) rfl), rfl⟩
abbrev w_SW_input : List Cond := .code y_SW_input b_SW_input 4 (some .int) :: sw_words
theorem yd_SW_input : y_SW_input.cls ≠ "java/lang/invoke/MethodHandle" ∧ y_SW_input.cls ≠ "java/lang/invoke/VarHandle" ∧ (parseMethodDescriptor y_SW_input.desc).map (fun d => d.parameters.length) = some 3 := by decide +kernel
theorem kc_SW_undo : Cond.code y_SW_undo b_SW_undo 2 (some .boolean) ∈ sw_words := List.mem_filter.mpr ⟨List.mem_append_right _ (List.mem_of_getElem? (i := 297) rfl), rfl⟩
abbrev w_SW_undo : List Cond := .code y_SW_undo b_SW_undo 2 (some .boolean) :: sw_words
theorem yd_SW_undo : y_SW_undo.cls ≠ "java/lang/invoke/MethodHandle" ∧ y_SW_undo.cls ≠ "java/lang/invoke/VarHandle" ∧ (parseMethodDescriptor y_SW_undo.desc).map (fun d => d.parameters.length) = some 1 := by decide +kernel
theorem kc_SW_crossed : Cond.code y_SW_crossed b_SW_crossed 2 (some .int) ∈ sw_words := List.mem_filter.mpr ⟨List.mem_append_right _ (List.mem_of_getElem? (i := 363) rfl), rfl⟩
abbrev w_SW_crossed : List Cond := .code y_SW_crossed b_SW_crossed 2 (some .int) :: sw_words
theorem yd_SW_crossed : y_SW_crossed.cls ≠ "java/lang/invoke/MethodHandle" ∧ y_SW_crossed.cls ≠ "java/lang/invoke/VarHandle" ∧ (parseMethodDescriptor y_SW_crossed.desc).map (fun d => d.parameters.length) = some 1 := by decide +kernel
theorem kc_SW_stopper : Cond.code y_SW_stopper b_SW_stopper 1 (some .int) ∈ sw_words := List.mem_filter.mpr ⟨List.mem_append_right _ (List.mem_of_getElem? (i := 367) rfl), rfl⟩
abbrev w_SW_stopper : List Cond := .code y_SW_stopper b_SW_stopper 1 (some .int) :: sw_words
theorem yd_SW_stopper : y_SW_stopper.cls ≠ "java/lang/invoke/MethodHandle" ∧ y_SW_stopper.cls ≠ "java/lang/invoke/VarHandle" ∧ (parseMethodDescriptor y_SW_stopper.desc).map (fun d => d.parameters.length) = some 0 := by decide +kernel
theorem kc_SW_walker : Cond.code y_SW_walker b_SW_walker 2 (some .int) ∈ sw_words := List.mem_filter.mpr ⟨List.mem_append_right _ (List.mem_of_getElem? (i := 371) rfl), rfl⟩
abbrev w_SW_walker : List Cond := .code y_SW_walker b_SW_walker 2 (some .int) :: sw_words
theorem yd_SW_walker : y_SW_walker.cls ≠ "java/lang/invoke/MethodHandle" ∧ y_SW_walker.cls ≠ "java/lang/invoke/VarHandle" ∧ (parseMethodDescriptor y_SW_walker.desc).map (fun d => d.parameters.length) = some 1 := by decide +kernel
theorem kc_SW_look : Cond.code y_SW_look b_SW_look 2 (some .int) ∈ sw_words := List.mem_filter.mpr ⟨List.mem_append_right _ (List.mem_of_getElem? (i := 376) rfl), rfl⟩
abbrev w_SW_look : List Cond := .code y_SW_look b_SW_look 2 (some .int) :: sw_words
theorem yd_SW_look : y_SW_look.cls ≠ "java/lang/invoke/MethodHandle" ∧ y_SW_look.cls ≠ "java/lang/invoke/VarHandle" ∧ (parseMethodDescriptor y_SW_look.desc).map (fun d => d.parameters.length) = some 1 := by decide +kernel
theorem kc_SW_returnToOrigin : Cond.code y_SW_returnToOrigin b_SW_returnToOrigin 1 none ∈ sw_words := List.mem_filter.mpr ⟨List.mem_append_right _ (List.mem_of_getElem? (i := 278) rfl), rfl⟩
abbrev w_SW_returnToOrigin : List Cond := .code y_SW_returnToOrigin b_SW_returnToOrigin 1 none :: sw_words
theorem yd_SW_returnToOrigin : y_SW_returnToOrigin.cls ≠ "java/lang/invoke/MethodHandle" ∧ y_SW_returnToOrigin.cls ≠ "java/lang/invoke/VarHandle" ∧ (parseMethodDescriptor y_SW_returnToOrigin.desc).map (fun d => d.parameters.length) = some 0 := by decide +kernel
theorem kc_SW_start : Cond.code y_SW_start b_SW_start 5 (some .boolean) ∈ sw_words := List.mem_filter.mpr ⟨List.mem_append_right _ (List.mem_of_getElem? (i := 271) rfl), rfl⟩
abbrev w_SW_start : List Cond := .code y_SW_start b_SW_start 5 (some .boolean) :: sw_words
theorem yd_SW_start : y_SW_start.cls ≠ "java/lang/invoke/MethodHandle" ∧ y_SW_start.cls ≠ "java/lang/invoke/VarHandle" ∧ (parseMethodDescriptor y_SW_start.desc).map (fun d => d.parameters.length) = some 4 := by decide +kernel
theorem kc_SW_build : Cond.code y_SW_build b_SW_build 2 (some .int) ∈ sw_words := List.mem_filter.mpr ⟨List.mem_append_right _ (List.mem_of_getElem? (i := 224) rfl), rfl⟩
abbrev w_SW_build : List Cond := .code y_SW_build b_SW_build 2 (some .int) :: sw_words
theorem yd_SW_build : y_SW_build.cls ≠ "java/lang/invoke/MethodHandle" ∧ y_SW_build.cls ≠ "java/lang/invoke/VarHandle" ∧ (parseMethodDescriptor y_SW_build.desc).map (fun d => d.parameters.length) = some 0 := by decide +kernel
theorem kc_SW_walk : Cond.code y_SW_walk b_SW_walk 8 (some .int) ∈ sw_words := List.mem_filter.mpr ⟨List.mem_append_right _ (List.mem_of_getElem? (i := 309) rfl), rfl⟩
abbrev w_SW_walk : List Cond := .code y_SW_walk b_SW_walk 8 (some .int) :: sw_words
theorem yd_SW_walk : y_SW_walk.cls ≠ "java/lang/invoke/MethodHandle" ∧ y_SW_walk.cls ≠ "java/lang/invoke/VarHandle" ∧ (parseMethodDescriptor y_SW_walk.desc).map (fun d => d.parameters.length) = some 3 := by decide +kernel
theorem kc_SW_step : Cond.code y_SW_step b_SW_step 4 (some .int) ∈ sw_words := List.mem_filter.mpr ⟨List.mem_append_right _ (List.mem_of_getElem? (i := 359) rfl), rfl⟩
abbrev w_SW_step : List Cond := .code y_SW_step b_SW_step 4 (some .int) :: sw_words
theorem yd_SW_step : y_SW_step.cls ≠ "java/lang/invoke/MethodHandle" ∧ y_SW_step.cls ≠ "java/lang/invoke/VarHandle" ∧ (parseMethodDescriptor y_SW_step.desc).map (fun d => d.parameters.length) = some 3 := by decide +kernel
theorem kc_SW_play : Cond.code y_SW_play b_SW_play 4 (some .int) ∈ sw_words := List.mem_filter.mpr ⟨List.mem_append_right _ (List.mem_of_getElem? (i := 305) rfl), rfl⟩
abbrev w_SW_play : List Cond := .code y_SW_play b_SW_play 4 (some .int) :: sw_words
theorem yd_SW_play : y_SW_play.cls ≠ "java/lang/invoke/MethodHandle" ∧ y_SW_play.cls ≠ "java/lang/invoke/VarHandle" ∧ (parseMethodDescriptor y_SW_play.desc).map (fun d => d.parameters.length) = some 1 := by decide +kernel
theorem kc_objectInit : Cond.code objectInit ⟨#[0xb1]⟩ 1 none ∈ sw_words := List.mem_filter.mpr ⟨List.mem_append_right _ (List.mem_of_getElem? (i := 16) rfl), rfl⟩
theorem kc_Math_max : Cond.code Lib.Math.max.name Lib.Math.max.code 2 (some .int) ∈ sw_words := List.mem_filter.mpr ⟨List.mem_append_right _ (List.mem_of_getElem? (i := 245) rfl), rfl⟩
theorem kc_Math_min : Cond.code Lib.Math.min.name Lib.Math.min.code 2 (some .int) ∈ sw_words := List.mem_filter.mpr ⟨List.mem_append_right _ (List.mem_of_getElem? (i := 248) rfl), rfl⟩
theorem kc_Math_abs : Cond.code Lib.Math.abs.name Lib.Math.abs.code 1 (some .int) ∈ sw_words := List.mem_filter.mpr ⟨List.mem_append_right _ (List.mem_of_getElem? (i := 343) rfl), rfl⟩
end
section
theorem kw_7ea4a733 : Cond.initialized R_SW ∈ sw_words := List.mem_filter.mpr ⟨List.mem_append_right _ (List.mem_of_getElem? (i := 1) (by decide +kernel)), by decide +kernel⟩
theorem kw_d0fc5bad : Cond.methodLink R_SW 51 y_SW_isWithin ∈ sw_words := List.mem_filter.mpr ⟨List.mem_append_right _ (List.mem_of_getElem? (i := 170) (by decide +kernel)), by decide +kernel⟩
theorem kw_de2663c6 : Cond.static y_SW_isWithin ∈ sw_words := List.mem_filter.mpr ⟨List.mem_append_right _ (List.mem_of_getElem? (i := 171) (by decide +kernel)), by decide +kernel⟩
theorem kw_651ad336 : Cond.initialized R_Math ∈ sw_words := List.mem_filter.mpr ⟨List.mem_append_right _ (List.mem_of_getElem? (i := 7) (by decide +kernel)), by decide +kernel⟩
theorem kw_a33f319e : Cond.methodLink R_SW 156 y_Math_floorMod ∈ sw_words := List.mem_filter.mpr ⟨List.mem_append_right _ (List.mem_of_getElem? (i := 310) (by decide +kernel)), by decide +kernel⟩
theorem kw_464a0f65 : Cond.static y_Math_floorMod ∈ sw_words := List.mem_filter.mpr ⟨List.mem_append_right _ (List.mem_of_getElem? (i := 311) (by decide +kernel)), by decide +kernel⟩
theorem kw_9d0ddac9 : Cond.fieldLink R_SW 176 "SectorWalk" "QUARTER_COSINES" "[I" ∈ sw_words := List.mem_filter.mpr ⟨List.mem_append_right _ (List.mem_of_getElem? (i := 316) (by decide +kernel)), by decide +kernel⟩
theorem kw_ae77367f : Cond.fieldLink R_Pl 36 "SectorWalk$Plan" "vertexCount" "I" ∈ sw_words := List.mem_filter.mpr ⟨List.mem_append_right _ (List.mem_of_getElem? (i := 37) (by decide +kernel)), by decide +kernel⟩
theorem kw_8591057a : Cond.fieldLink R_Pl 40 "SectorWalk$Plan" "sectorCount" "I" ∈ sw_words := List.mem_filter.mpr ⟨List.mem_append_right _ (List.mem_of_getElem? (i := 39) (by decide +kernel)), by decide +kernel⟩
theorem kw_8234c2ed : Cond.fieldLink R_Pl 9 "SectorWalk$Plan" "vertexX" "[I" ∈ sw_words := List.mem_filter.mpr ⟨List.mem_append_right _ (List.mem_of_getElem? (i := 23) (by decide +kernel)), by decide +kernel⟩
theorem kw_c8115e4c : Cond.fieldLink R_Pl 15 "SectorWalk$Plan" "vertexY" "[I" ∈ sw_words := List.mem_filter.mpr ⟨List.mem_append_right _ (List.mem_of_getElem? (i := 25) (by decide +kernel)), by decide +kernel⟩
theorem kw_e4821dd4 : Cond.initialized R_Pl ∈ sw_words := List.mem_filter.mpr ⟨List.mem_append_right _ (List.mem_of_getElem? (i := 2) (by decide +kernel)), by decide +kernel⟩
theorem kw_54bbef87 : Cond.methodLink R_Pl 43 y_Pl_isTaken ∈ sw_words := List.mem_filter.mpr ⟨List.mem_append_right _ (List.mem_of_getElem? (i := 177) (by decide +kernel)), by decide +kernel⟩
theorem kw_6e4e60b1 : Cond.instanceMethod y_Pl_isTaken ∈ sw_words := List.mem_filter.mpr ⟨List.mem_append_right _ (List.mem_of_getElem? (i := 179) (by decide +kernel)), by decide +kernel⟩
theorem kw_7eb65973 : Cond.selects R_Pl y_Pl_isTaken y_Pl_isTaken ∈ sw_words := List.mem_filter.mpr ⟨List.mem_append_left _ (List.mem_of_getElem? (i := 0) (by decide +kernel)), by decide +kernel⟩
theorem kw_27d57bb8 : Cond.fieldLink R_Pl 18 "SectorWalk$Plan" "floor" "[I" ∈ sw_words := List.mem_filter.mpr ⟨List.mem_append_right _ (List.mem_of_getElem? (i := 27) (by decide +kernel)), by decide +kernel⟩
theorem kw_65f1a660 : Cond.fieldLink R_Pl 21 "SectorWalk$Plan" "ceiling" "[I" ∈ sw_words := List.mem_filter.mpr ⟨List.mem_append_right _ (List.mem_of_getElem? (i := 28) (by decide +kernel)), by decide +kernel⟩
theorem kw_733d4839 : Cond.fieldLink R_Pl 47 "SectorWalk$Plan" "wallCount" "I" ∈ sw_words := List.mem_filter.mpr ⟨List.mem_append_right _ (List.mem_of_getElem? (i := 42) (by decide +kernel)), by decide +kernel⟩
theorem kw_8b810f0c : Cond.fieldLink R_Pl 24 "SectorWalk$Plan" "from" "[I" ∈ sw_words := List.mem_filter.mpr ⟨List.mem_append_right _ (List.mem_of_getElem? (i := 29) (by decide +kernel)), by decide +kernel⟩
theorem kw_1e4d1ebb : Cond.fieldLink R_Pl 27 "SectorWalk$Plan" "to" "[I" ∈ sw_words := List.mem_filter.mpr ⟨List.mem_append_right _ (List.mem_of_getElem? (i := 31) (by decide +kernel)), by decide +kernel⟩
theorem kw_3f39eaf5 : Cond.fieldLink R_Pl 30 "SectorWalk$Plan" "front" "[I" ∈ sw_words := List.mem_filter.mpr ⟨List.mem_append_right _ (List.mem_of_getElem? (i := 33) (by decide +kernel)), by decide +kernel⟩
theorem kw_fa356e2a : Cond.fieldLink R_Pl 33 "SectorWalk$Plan" "back" "[I" ∈ sw_words := List.mem_filter.mpr ⟨List.mem_append_right _ (List.mem_of_getElem? (i := 35) (by decide +kernel)), by decide +kernel⟩
theorem kw_d7e310f2 : Cond.methodLink R_Pl 50 arraycopyName ∈ sw_words := List.mem_filter.mpr ⟨List.mem_append_right _ (List.mem_of_getElem? (i := 261) (by decide +kernel)), by decide +kernel⟩
theorem kw_b3787360 : Cond.native arraycopyName ∈ sw_words := List.mem_filter.mpr ⟨List.mem_append_right _ (List.mem_of_getElem? (i := 263) (by decide +kernel)), by decide +kernel⟩
theorem kw_4da6e29e : Cond.static arraycopyName ∈ sw_words := List.mem_filter.mpr ⟨List.mem_append_right _ (List.mem_of_getElem? (i := 262) (by decide +kernel)), by decide +kernel⟩
theorem kw_3dc9bfbd : Cond.initialized "java/lang/System" ∈ sw_words := List.mem_filter.mpr ⟨List.mem_append_right _ (List.mem_of_getElem? (i := 8) (by decide +kernel)), by decide +kernel⟩
theorem kw_8163ed3a : Cond.fieldLink R_Ta 21 "SectorWalk$Tape" "count" "I" ∈ sw_words := List.mem_filter.mpr ⟨List.mem_append_right _ (List.mem_of_getElem? (i := 80) (by decide +kernel)), by decide +kernel⟩
theorem kw_a5894e3b : Cond.fieldLink R_Ta 9 "SectorWalk$Tape" "ahead" "[I" ∈ sw_words := List.mem_filter.mpr ⟨List.mem_append_right _ (List.mem_of_getElem? (i := 74) (by decide +kernel)), by decide +kernel⟩
theorem kw_0dba980b : Cond.fieldLink R_Ta 15 "SectorWalk$Tape" "aside" "[I" ∈ sw_words := List.mem_filter.mpr ⟨List.mem_append_right _ (List.mem_of_getElem? (i := 76) (by decide +kernel)), by decide +kernel⟩
theorem kw_96c33365 : Cond.fieldLink R_Ta 18 "SectorWalk$Tape" "turn" "[I" ∈ sw_words := List.mem_filter.mpr ⟨List.mem_append_right _ (List.mem_of_getElem? (i := 78) (by decide +kernel)), by decide +kernel⟩
theorem kw_a3309d6b : Cond.fieldLink R_St 7 "SectorWalk$Stand" "x" "I" ∈ sw_words := List.mem_filter.mpr ⟨List.mem_append_right _ (List.mem_of_getElem? (i := 97) (by decide +kernel)), by decide +kernel⟩
theorem kw_ea0b02d1 : Cond.fieldLink R_St 13 "SectorWalk$Stand" "y" "I" ∈ sw_words := List.mem_filter.mpr ⟨List.mem_append_right _ (List.mem_of_getElem? (i := 100) (by decide +kernel)), by decide +kernel⟩
theorem kw_bbaea129 : Cond.fieldLink R_St 16 "SectorWalk$Stand" "angle" "I" ∈ sw_words := List.mem_filter.mpr ⟨List.mem_append_right _ (List.mem_of_getElem? (i := 103) (by decide +kernel)), by decide +kernel⟩
theorem kw_ef274c34 : Cond.fieldLink R_St 19 "SectorWalk$Stand" "sector" "I" ∈ sw_words := List.mem_filter.mpr ⟨List.mem_append_right _ (List.mem_of_getElem? (i := 105) (by decide +kernel)), by decide +kernel⟩
theorem kw_7f5cc8e8 : Cond.fieldLink R_Cr 21 "SectorWalk$Crossings" "count" "I" ∈ sw_words := List.mem_filter.mpr ⟨List.mem_append_right _ (List.mem_of_getElem? (i := 126) (by decide +kernel)), by decide +kernel⟩
theorem kw_767774d4 : Cond.fieldLink R_Cr 25 "SectorWalk$Crossings" "firstStopper" "I" ∈ sw_words := List.mem_filter.mpr ⟨List.mem_append_right _ (List.mem_of_getElem? (i := 128) (by decide +kernel)), by decide +kernel⟩
theorem kw_b1bc16be : Cond.static y_SW_cross ∈ sw_words := List.mem_filter.mpr ⟨List.mem_append_right _ (List.mem_of_getElem? (i := 238) (by decide +kernel)), by decide +kernel⟩
theorem kw_9cbdf2ed : Cond.methodLink R_Pl 84 y_Pl_side ∈ sw_words := List.mem_filter.mpr ⟨List.mem_append_right _ (List.mem_of_getElem? (i := 253) (by decide +kernel)), by decide +kernel⟩
theorem kw_98fa46ae : Cond.instanceMethod y_Pl_side ∈ sw_words := List.mem_filter.mpr ⟨List.mem_append_right _ (List.mem_of_getElem? (i := 255) (by decide +kernel)), by decide +kernel⟩
theorem kw_6ad6a552 : Cond.selects R_Pl y_Pl_side y_Pl_side ∈ sw_words := List.mem_filter.mpr ⟨List.mem_append_left _ (List.mem_of_getElem? (i := 4) (by decide +kernel)), by decide +kernel⟩
theorem kw_abc36f78 : Cond.methodLink R_Pl 75 Lib.Math.max.name ∈ sw_words := List.mem_filter.mpr ⟨List.mem_append_right _ (List.mem_of_getElem? (i := 243) (by decide +kernel)), by decide +kernel⟩
theorem kw_05e3ba51 : Cond.static Lib.Math.max.name ∈ sw_words := List.mem_filter.mpr ⟨List.mem_append_right _ (List.mem_of_getElem? (i := 244) (by decide +kernel)), by decide +kernel⟩
theorem kw_0f7fb0a1 : Cond.initialized "java/lang/Math" ∈ sw_words := List.mem_filter.mpr ⟨List.mem_append_right _ (List.mem_of_getElem? (i := 7) (by decide +kernel)), by decide +kernel⟩
theorem kw_d854bd5a : Cond.methodLink R_Pl 81 Lib.Math.min.name ∈ sw_words := List.mem_filter.mpr ⟨List.mem_append_right _ (List.mem_of_getElem? (i := 246) (by decide +kernel)), by decide +kernel⟩
theorem kw_e38315b0 : Cond.static Lib.Math.min.name ∈ sw_words := List.mem_filter.mpr ⟨List.mem_append_right _ (List.mem_of_getElem? (i := 247) (by decide +kernel)), by decide +kernel⟩
theorem kw_9dfe1215 : Cond.methodLink R_Pl 63 y_Pl_boxesMeet ∈ sw_words := List.mem_filter.mpr ⟨List.mem_append_right _ (List.mem_of_getElem? (i := 240) (by decide +kernel)), by decide +kernel⟩
theorem kw_a33295e2 : Cond.static y_Pl_boxesMeet ∈ sw_words := List.mem_filter.mpr ⟨List.mem_append_right _ (List.mem_of_getElem? (i := 241) (by decide +kernel)), by decide +kernel⟩
theorem kw_720b3d8f : Cond.methodLink R_Pl 67 y_Pl_straddles ∈ sw_words := List.mem_filter.mpr ⟨List.mem_append_right _ (List.mem_of_getElem? (i := 249) (by decide +kernel)), by decide +kernel⟩
theorem kw_861dd4fe : Cond.instanceMethod y_Pl_straddles ∈ sw_words := List.mem_filter.mpr ⟨List.mem_append_right _ (List.mem_of_getElem? (i := 251) (by decide +kernel)), by decide +kernel⟩
theorem kw_3dad9645 : Cond.selects R_Pl y_Pl_straddles y_Pl_straddles ∈ sw_words := List.mem_filter.mpr ⟨List.mem_append_left _ (List.mem_of_getElem? (i := 3) (by decide +kernel)), by decide +kernel⟩
theorem kw_4d22c011 : Cond.methodLink R_Pl 59 y_Pl_leaveAlike ∈ sw_words := List.mem_filter.mpr ⟨List.mem_append_right _ (List.mem_of_getElem? (i := 233) (by decide +kernel)), by decide +kernel⟩
theorem kw_c176b2a6 : Cond.instanceMethod y_Pl_leaveAlike ∈ sw_words := List.mem_filter.mpr ⟨List.mem_append_right _ (List.mem_of_getElem? (i := 235) (by decide +kernel)), by decide +kernel⟩
theorem kw_90b65df4 : Cond.selects R_Pl y_Pl_leaveAlike y_Pl_leaveAlike ∈ sw_words := List.mem_filter.mpr ⟨List.mem_append_left _ (List.mem_of_getElem? (i := 2) (by decide +kernel)), by decide +kernel⟩
theorem kw_a936cbbd : Cond.methodLink R_Pl 56 y_Pl_clash ∈ sw_words := List.mem_filter.mpr ⟨List.mem_append_right _ (List.mem_of_getElem? (i := 229) (by decide +kernel)), by decide +kernel⟩
theorem kw_edf062c2 : Cond.instanceMethod y_Pl_clash ∈ sw_words := List.mem_filter.mpr ⟨List.mem_append_right _ (List.mem_of_getElem? (i := 231) (by decide +kernel)), by decide +kernel⟩
theorem kw_769e7e73 : Cond.selects R_Pl y_Pl_clash y_Pl_clash ∈ sw_words := List.mem_filter.mpr ⟨List.mem_append_left _ (List.mem_of_getElem? (i := 1) (by decide +kernel)), by decide +kernel⟩
theorem kw_600bd2b2 : Cond.fieldLink R_Cr 15 "SectorWalk$Crossings" "p" "[I" ∈ sw_words := List.mem_filter.mpr ⟨List.mem_append_right _ (List.mem_of_getElem? (i := 124) (by decide +kernel)), by decide +kernel⟩
theorem kw_f084e442 : Cond.methodLink R_Cr 80 Lib.Math.abs.name ∈ sw_words := List.mem_filter.mpr ⟨List.mem_append_right _ (List.mem_of_getElem? (i := 341) (by decide +kernel)), by decide +kernel⟩
theorem kw_09634540 : Cond.static Lib.Math.abs.name ∈ sw_words := List.mem_filter.mpr ⟨List.mem_append_right _ (List.mem_of_getElem? (i := 342) (by decide +kernel)), by decide +kernel⟩
theorem kw_47a18be0 : Cond.fieldLink R_Cr 18 "SectorWalk$Crossings" "q" "[I" ∈ sw_words := List.mem_filter.mpr ⟨List.mem_append_right _ (List.mem_of_getElem? (i := 125) (by decide +kernel)), by decide +kernel⟩
theorem kw_053bb905 : Cond.fieldLink R_Cr 9 "SectorWalk$Crossings" "order" "[I" ∈ sw_words := List.mem_filter.mpr ⟨List.mem_append_right _ (List.mem_of_getElem? (i := 122) (by decide +kernel)), by decide +kernel⟩
theorem kw_7f626125 : Cond.initialized R_Cr ∈ sw_words := List.mem_filter.mpr ⟨List.mem_append_right _ (List.mem_of_getElem? (i := 5) (by decide +kernel)), by decide +kernel⟩
theorem kw_53f2f32e : Cond.methodLink R_Cr 41 y_Cr_comesFromFront ∈ sw_words := List.mem_filter.mpr ⟨List.mem_append_right _ (List.mem_of_getElem? (i := 344) (by decide +kernel)), by decide +kernel⟩
theorem kw_fc808330 : Cond.instanceMethod y_Cr_comesFromFront ∈ sw_words := List.mem_filter.mpr ⟨List.mem_append_right _ (List.mem_of_getElem? (i := 346) (by decide +kernel)), by decide +kernel⟩
theorem kw_c20cbe3c : Cond.selects R_Cr y_Cr_comesFromFront y_Cr_comesFromFront ∈ sw_words := List.mem_filter.mpr ⟨List.mem_append_left _ (List.mem_of_getElem? (i := 10) (by decide +kernel)), by decide +kernel⟩
theorem kw_d6cc6d58 : Cond.fieldLink R_Cr 89 "SectorWalk$Plan" "front" "[I" ∈ sw_words := List.mem_filter.mpr ⟨List.mem_append_right _ (List.mem_of_getElem? (i := 34) (by decide +kernel)), by decide +kernel⟩
theorem kw_20b713e0 : Cond.fieldLink R_Cr 86 "SectorWalk$Plan" "back" "[I" ∈ sw_words := List.mem_filter.mpr ⟨List.mem_append_right _ (List.mem_of_getElem? (i := 36) (by decide +kernel)), by decide +kernel⟩
theorem kw_1a4b003e : Cond.methodLink R_Cr 77 y_Cr_isFarther ∈ sw_words := List.mem_filter.mpr ⟨List.mem_append_right _ (List.mem_of_getElem? (i := 337) (by decide +kernel)), by decide +kernel⟩
theorem kw_a1abe97f : Cond.instanceMethod y_Cr_isFarther ∈ sw_words := List.mem_filter.mpr ⟨List.mem_append_right _ (List.mem_of_getElem? (i := 339) (by decide +kernel)), by decide +kernel⟩
theorem kw_f1434ec2 : Cond.selects R_Cr y_Cr_isFarther y_Cr_isFarther ∈ sw_words := List.mem_filter.mpr ⟨List.mem_append_left _ (List.mem_of_getElem? (i := 9) (by decide +kernel)), by decide +kernel⟩
theorem kw_b60aa6b2 : Cond.fieldLink R_Cr 49 "SectorWalk$Plan" "vertexX" "[I" ∈ sw_words := List.mem_filter.mpr ⟨List.mem_append_right _ (List.mem_of_getElem? (i := 24) (by decide +kernel)), by decide +kernel⟩
theorem kw_d0b565cb : Cond.fieldLink R_Cr 52 "SectorWalk$Plan" "from" "[I" ∈ sw_words := List.mem_filter.mpr ⟨List.mem_append_right _ (List.mem_of_getElem? (i := 30) (by decide +kernel)), by decide +kernel⟩
theorem kw_488ca1e4 : Cond.fieldLink R_Cr 55 "SectorWalk$Stand" "x" "I" ∈ sw_words := List.mem_filter.mpr ⟨List.mem_append_right _ (List.mem_of_getElem? (i := 98) (by decide +kernel)), by decide +kernel⟩
theorem kw_8fd15a10 : Cond.fieldLink R_Cr 60 "SectorWalk$Plan" "vertexY" "[I" ∈ sw_words := List.mem_filter.mpr ⟨List.mem_append_right _ (List.mem_of_getElem? (i := 26) (by decide +kernel)), by decide +kernel⟩
theorem kw_23641763 : Cond.fieldLink R_Cr 63 "SectorWalk$Stand" "y" "I" ∈ sw_words := List.mem_filter.mpr ⟨List.mem_append_right _ (List.mem_of_getElem? (i := 101) (by decide +kernel)), by decide +kernel⟩
theorem kw_b917b49a : Cond.fieldLink R_Cr 66 "SectorWalk$Plan" "to" "[I" ∈ sw_words := List.mem_filter.mpr ⟨List.mem_append_right _ (List.mem_of_getElem? (i := 32) (by decide +kernel)), by decide +kernel⟩
theorem kw_c47a1d87 : Cond.methodLink R_Cr 73 y_Cr_isUpToOne ∈ sw_words := List.mem_filter.mpr ⟨List.mem_append_right _ (List.mem_of_getElem? (i := 330) (by decide +kernel)), by decide +kernel⟩
theorem kw_b5409a40 : Cond.static y_Cr_isUpToOne ∈ sw_words := List.mem_filter.mpr ⟨List.mem_append_right _ (List.mem_of_getElem? (i := 331) (by decide +kernel)), by decide +kernel⟩
theorem kw_0adfc9a3 : Cond.fieldLink R_Cr 28 "SectorWalk$Plan" "wallCount" "I" ∈ sw_words := List.mem_filter.mpr ⟨List.mem_append_right _ (List.mem_of_getElem? (i := 41) (by decide +kernel)), by decide +kernel⟩
theorem kw_3b5b9249 : Cond.methodLink R_Cr 45 y_Pl_stops ∈ sw_words := List.mem_filter.mpr ⟨List.mem_append_right _ (List.mem_of_getElem? (i := 348) (by decide +kernel)), by decide +kernel⟩
theorem kw_b36b3d15 : Cond.instanceMethod y_Pl_stops ∈ sw_words := List.mem_filter.mpr ⟨List.mem_append_right _ (List.mem_of_getElem? (i := 349) (by decide +kernel)), by decide +kernel⟩
theorem kw_4e123c4e : Cond.selects R_Pl y_Pl_stops y_Pl_stops ∈ sw_words := List.mem_filter.mpr ⟨List.mem_append_right _ (List.mem_of_getElem? (i := 350) (by decide +kernel)), by decide +kernel⟩
theorem kw_8b08a6ae : Cond.methodLink R_Cr 33 y_Cr_isCrossed ∈ sw_words := List.mem_filter.mpr ⟨List.mem_append_right _ (List.mem_of_getElem? (i := 325) (by decide +kernel)), by decide +kernel⟩
theorem kw_97d124a7 : Cond.instanceMethod y_Cr_isCrossed ∈ sw_words := List.mem_filter.mpr ⟨List.mem_append_right _ (List.mem_of_getElem? (i := 327) (by decide +kernel)), by decide +kernel⟩
theorem kw_c621ba1a : Cond.selects R_Cr y_Cr_isCrossed y_Cr_isCrossed ∈ sw_words := List.mem_filter.mpr ⟨List.mem_append_left _ (List.mem_of_getElem? (i := 7) (by decide +kernel)), by decide +kernel⟩
theorem kw_e298ac0b : Cond.methodLink R_Cr 37 y_Cr_insert ∈ sw_words := List.mem_filter.mpr ⟨List.mem_append_right _ (List.mem_of_getElem? (i := 333) (by decide +kernel)), by decide +kernel⟩
theorem kw_855c9ef0 : Cond.instanceMethod y_Cr_insert ∈ sw_words := List.mem_filter.mpr ⟨List.mem_append_right _ (List.mem_of_getElem? (i := 335) (by decide +kernel)), by decide +kernel⟩
theorem kw_3e4c02f2 : Cond.selects R_Cr y_Cr_insert y_Cr_insert ∈ sw_words := List.mem_filter.mpr ⟨List.mem_append_left _ (List.mem_of_getElem? (i := 8) (by decide +kernel)), by decide +kernel⟩
theorem kw_2f7f9c44 : Cond.methodLink R_St 1 objectInit ∈ sw_words := List.mem_filter.mpr ⟨List.mem_append_right _ (List.mem_of_getElem? (i := 96) (by decide +kernel)), by decide +kernel⟩
theorem kw_004f8c6f : Cond.instanceMethod objectInit ∈ sw_words := List.mem_filter.mpr ⟨List.mem_append_right _ (List.mem_of_getElem? (i := 15) (by decide +kernel)), by decide +kernel⟩
theorem kw_ba545fc0 : Cond.methodLink R_Ta 3 objectInit ∈ sw_words := List.mem_filter.mpr ⟨List.mem_append_right _ (List.mem_of_getElem? (i := 73) (by decide +kernel)), by decide +kernel⟩
theorem kw_2e6385fb : Cond.arrayClass .int ∈ sw_words := List.mem_filter.mpr ⟨List.mem_append_right _ (List.mem_of_getElem? (i := 67) (by decide +kernel)), by decide +kernel⟩
theorem kw_7fe4d622 : Cond.methodLink R_Cr 3 objectInit ∈ sw_words := List.mem_filter.mpr ⟨List.mem_append_right _ (List.mem_of_getElem? (i := 121) (by decide +kernel)), by decide +kernel⟩
theorem kw_87d24af8 : Cond.methodLink R_Pl 3 objectInit ∈ sw_words := List.mem_filter.mpr ⟨List.mem_append_right _ (List.mem_of_getElem? (i := 22) (by decide +kernel)), by decide +kernel⟩
theorem kw_9e7ac147 : Cond.methodLink R_SW 1 objectInit ∈ sw_words := List.mem_filter.mpr ⟨List.mem_append_right _ (List.mem_of_getElem? (i := 14) (by decide +kernel)), by decide +kernel⟩
theorem kw_3f5b6c76 : Cond.classLink R_SW 7 R_Pl ∈ sw_words := List.mem_filter.mpr ⟨List.mem_append_right _ (List.mem_of_getElem? (i := 17) (by decide +kernel)), by decide +kernel⟩
theorem kw_6b70b927 : Cond.instantiable R_Pl 11 ∈ sw_words := List.mem_filter.mpr ⟨List.mem_append_right _ (List.mem_of_getElem? (i := 18) (by decide +kernel)), by decide +kernel⟩
theorem kw_7d0fb96f : Cond.instanceMethod y_Pl_init ∈ sw_words := List.mem_filter.mpr ⟨List.mem_append_right _ (List.mem_of_getElem? (i := 20) (by decide +kernel)), by decide +kernel⟩
theorem kw_b49d652e : Cond.fieldLink R_SW 10 "SectorWalk" "draft" "LSectorWalk$Plan;" ∈ sw_words := List.mem_filter.mpr ⟨List.mem_append_right _ (List.mem_of_getElem? (i := 141) (by decide +kernel)), by decide +kernel⟩
theorem kw_f31a6d1c : Cond.fieldLink R_SW 16 "SectorWalk" "map" "LSectorWalk$Plan;" ∈ sw_words := List.mem_filter.mpr ⟨List.mem_append_right _ (List.mem_of_getElem? (i := 142) (by decide +kernel)), by decide +kernel⟩
theorem kw_7b5cc7fb : Cond.classLink R_SW 19 R_Ta ∈ sw_words := List.mem_filter.mpr ⟨List.mem_append_right _ (List.mem_of_getElem? (i := 68) (by decide +kernel)), by decide +kernel⟩
theorem kw_e35253cc : Cond.instantiable R_Ta 4 ∈ sw_words := List.mem_filter.mpr ⟨List.mem_append_right _ (List.mem_of_getElem? (i := 69) (by decide +kernel)), by decide +kernel⟩
theorem kw_fe5fa46d : Cond.initialized R_Ta ∈ sw_words := List.mem_filter.mpr ⟨List.mem_append_right _ (List.mem_of_getElem? (i := 3) (by decide +kernel)), by decide +kernel⟩
theorem kw_35de8ea2 : Cond.instanceMethod y_Ta_init ∈ sw_words := List.mem_filter.mpr ⟨List.mem_append_right _ (List.mem_of_getElem? (i := 71) (by decide +kernel)), by decide +kernel⟩
theorem kw_1e20d327 : Cond.fieldLink R_SW 22 "SectorWalk" "tape" "LSectorWalk$Tape;" ∈ sw_words := List.mem_filter.mpr ⟨List.mem_append_right _ (List.mem_of_getElem? (i := 143) (by decide +kernel)), by decide +kernel⟩
theorem kw_997e1d9f : Cond.classLink R_SW 26 R_St ∈ sw_words := List.mem_filter.mpr ⟨List.mem_append_right _ (List.mem_of_getElem? (i := 91) (by decide +kernel)), by decide +kernel⟩
theorem kw_64680aee : Cond.instantiable R_St 4 ∈ sw_words := List.mem_filter.mpr ⟨List.mem_append_right _ (List.mem_of_getElem? (i := 92) (by decide +kernel)), by decide +kernel⟩
theorem kw_dcc3d641 : Cond.initialized R_St ∈ sw_words := List.mem_filter.mpr ⟨List.mem_append_right _ (List.mem_of_getElem? (i := 4) (by decide +kernel)), by decide +kernel⟩
theorem kw_a3622304 : Cond.instanceMethod y_St_init ∈ sw_words := List.mem_filter.mpr ⟨List.mem_append_right _ (List.mem_of_getElem? (i := 94) (by decide +kernel)), by decide +kernel⟩
theorem kw_ca3e350b : Cond.fieldLink R_SW 29 "SectorWalk" "origin" "LSectorWalk$Stand;" ∈ sw_words := List.mem_filter.mpr ⟨List.mem_append_right _ (List.mem_of_getElem? (i := 144) (by decide +kernel)), by decide +kernel⟩
theorem kw_77d0239c : Cond.fieldLink R_SW 33 "SectorWalk" "now" "LSectorWalk$Stand;" ∈ sw_words := List.mem_filter.mpr ⟨List.mem_append_right _ (List.mem_of_getElem? (i := 145) (by decide +kernel)), by decide +kernel⟩
theorem kw_9ca8a14f : Cond.classLink R_SW 36 R_Cr ∈ sw_words := List.mem_filter.mpr ⟨List.mem_append_right _ (List.mem_of_getElem? (i := 116) (by decide +kernel)), by decide +kernel⟩
theorem kw_47fb1155 : Cond.instantiable R_Cr 5 ∈ sw_words := List.mem_filter.mpr ⟨List.mem_append_right _ (List.mem_of_getElem? (i := 117) (by decide +kernel)), by decide +kernel⟩
theorem kw_12e55cd7 : Cond.instanceMethod y_Cr_init ∈ sw_words := List.mem_filter.mpr ⟨List.mem_append_right _ (List.mem_of_getElem? (i := 119) (by decide +kernel)), by decide +kernel⟩
theorem kw_a9bfe939 : Cond.fieldLink R_SW 39 "SectorWalk" "latest" "LSectorWalk$Crossings;" ∈ sw_words := List.mem_filter.mpr ⟨List.mem_append_right _ (List.mem_of_getElem? (i := 146) (by decide +kernel)), by decide +kernel⟩
theorem kw_f96a0642 : Cond.fieldLink R_SW 43 "SectorWalk" "mapsBuilt" "I" ∈ sw_words := List.mem_filter.mpr ⟨List.mem_append_right _ (List.mem_of_getElem? (i := 147) (by decide +kernel)), by decide +kernel⟩
theorem kw_67ec4180 : Cond.fieldLink R_SW 47 "SectorWalk" "started" "Z" ∈ sw_words := List.mem_filter.mpr ⟨List.mem_append_right _ (List.mem_of_getElem? (i := 148) (by decide +kernel)), by decide +kernel⟩
theorem kw_b8a0171e : Cond.methodLink R_SW 55 y_Pl_addVertex ∈ sw_words := List.mem_filter.mpr ⟨List.mem_append_right _ (List.mem_of_getElem? (i := 173) (by decide +kernel)), by decide +kernel⟩
theorem kw_a8141b70 : Cond.instanceMethod y_Pl_addVertex ∈ sw_words := List.mem_filter.mpr ⟨List.mem_append_right _ (List.mem_of_getElem? (i := 174) (by decide +kernel)), by decide +kernel⟩
theorem kw_529b1fee : Cond.selects R_Pl y_Pl_addVertex y_Pl_addVertex ∈ sw_words := List.mem_filter.mpr ⟨List.mem_append_right _ (List.mem_of_getElem? (i := 175) (by decide +kernel)), by decide +kernel⟩
theorem kw_bdd0640b : Cond.methodLink R_SW 59 y_Pl_addSector ∈ sw_words := List.mem_filter.mpr ⟨List.mem_append_right _ (List.mem_of_getElem? (i := 185) (by decide +kernel)), by decide +kernel⟩
theorem kw_0a46bbad : Cond.instanceMethod y_Pl_addSector ∈ sw_words := List.mem_filter.mpr ⟨List.mem_append_right _ (List.mem_of_getElem? (i := 186) (by decide +kernel)), by decide +kernel⟩
theorem kw_7fd5e631 : Cond.selects R_Pl y_Pl_addSector y_Pl_addSector ∈ sw_words := List.mem_filter.mpr ⟨List.mem_append_right _ (List.mem_of_getElem? (i := 187) (by decide +kernel)), by decide +kernel⟩
theorem kw_50f9ae90 : Cond.methodLink R_SW 62 y_Pl_hasVertex ∈ sw_words := List.mem_filter.mpr ⟨List.mem_append_right _ (List.mem_of_getElem? (i := 193) (by decide +kernel)), by decide +kernel⟩
theorem kw_ee2e010f : Cond.instanceMethod y_Pl_hasVertex ∈ sw_words := List.mem_filter.mpr ⟨List.mem_append_right _ (List.mem_of_getElem? (i := 194) (by decide +kernel)), by decide +kernel⟩
theorem kw_1088634e : Cond.selects R_Pl y_Pl_hasVertex y_Pl_hasVertex ∈ sw_words := List.mem_filter.mpr ⟨List.mem_append_right _ (List.mem_of_getElem? (i := 195) (by decide +kernel)), by decide +kernel⟩
theorem kw_269a42ca : Cond.methodLink R_SW 66 y_Pl_hasSector ∈ sw_words := List.mem_filter.mpr ⟨List.mem_append_right _ (List.mem_of_getElem? (i := 197) (by decide +kernel)), by decide +kernel⟩
theorem kw_4c7ca1d2 : Cond.instanceMethod y_Pl_hasSector ∈ sw_words := List.mem_filter.mpr ⟨List.mem_append_right _ (List.mem_of_getElem? (i := 198) (by decide +kernel)), by decide +kernel⟩
theorem kw_3dc69a91 : Cond.selects R_Pl y_Pl_hasSector y_Pl_hasSector ∈ sw_words := List.mem_filter.mpr ⟨List.mem_append_right _ (List.mem_of_getElem? (i := 199) (by decide +kernel)), by decide +kernel⟩
theorem kw_23f2da7e : Cond.methodLink R_SW 69 y_Pl_addWall ∈ sw_words := List.mem_filter.mpr ⟨List.mem_append_right _ (List.mem_of_getElem? (i := 201) (by decide +kernel)), by decide +kernel⟩
theorem kw_05485cbd : Cond.instanceMethod y_Pl_addWall ∈ sw_words := List.mem_filter.mpr ⟨List.mem_append_right _ (List.mem_of_getElem? (i := 202) (by decide +kernel)), by decide +kernel⟩
theorem kw_5f9b92c5 : Cond.selects R_Pl y_Pl_addWall y_Pl_addWall ∈ sw_words := List.mem_filter.mpr ⟨List.mem_append_right _ (List.mem_of_getElem? (i := 203) (by decide +kernel)), by decide +kernel⟩
theorem kw_a2b7dbe4 : Cond.methodLink R_SW 73 y_Pl_removeLastWall ∈ sw_words := List.mem_filter.mpr ⟨List.mem_append_right _ (List.mem_of_getElem? (i := 209) (by decide +kernel)), by decide +kernel⟩
theorem kw_9e9b25ab : Cond.instanceMethod y_Pl_removeLastWall ∈ sw_words := List.mem_filter.mpr ⟨List.mem_append_right _ (List.mem_of_getElem? (i := 210) (by decide +kernel)), by decide +kernel⟩
theorem kw_0dd00a32 : Cond.selects R_Pl y_Pl_removeLastWall y_Pl_removeLastWall ∈ sw_words := List.mem_filter.mpr ⟨List.mem_append_right _ (List.mem_of_getElem? (i := 211) (by decide +kernel)), by decide +kernel⟩
theorem kw_db2289b7 : Cond.methodLink R_SW 77 y_Pl_makeEmpty ∈ sw_words := List.mem_filter.mpr ⟨List.mem_append_right _ (List.mem_of_getElem? (i := 217) (by decide +kernel)), by decide +kernel⟩
theorem kw_980a307d : Cond.instanceMethod y_Pl_makeEmpty ∈ sw_words := List.mem_filter.mpr ⟨List.mem_append_right _ (List.mem_of_getElem? (i := 218) (by decide +kernel)), by decide +kernel⟩
theorem kw_461f99b4 : Cond.selects R_Pl y_Pl_makeEmpty y_Pl_makeEmpty ∈ sw_words := List.mem_filter.mpr ⟨List.mem_append_right _ (List.mem_of_getElem? (i := 219) (by decide +kernel)), by decide +kernel⟩
theorem kw_5f9ccc80 : Cond.methodLink R_SW 109 y_SW_isInput ∈ sw_words := List.mem_filter.mpr ⟨List.mem_append_right _ (List.mem_of_getElem? (i := 287) (by decide +kernel)), by decide +kernel⟩
theorem kw_4bf3cae6 : Cond.static y_SW_isInput ∈ sw_words := List.mem_filter.mpr ⟨List.mem_append_right _ (List.mem_of_getElem? (i := 288) (by decide +kernel)), by decide +kernel⟩
theorem kw_82c9f752 : Cond.methodLink R_SW 113 y_Ta_append ∈ sw_words := List.mem_filter.mpr ⟨List.mem_append_right _ (List.mem_of_getElem? (i := 290) (by decide +kernel)), by decide +kernel⟩
theorem kw_653fced9 : Cond.instanceMethod y_Ta_append ∈ sw_words := List.mem_filter.mpr ⟨List.mem_append_right _ (List.mem_of_getElem? (i := 291) (by decide +kernel)), by decide +kernel⟩
theorem kw_3c84e16d : Cond.selects R_Ta y_Ta_append y_Ta_append ∈ sw_words := List.mem_filter.mpr ⟨List.mem_append_right _ (List.mem_of_getElem? (i := 292) (by decide +kernel)), by decide +kernel⟩
theorem kw_ea05e201 : Cond.methodLink R_SW 117 y_Ta_removeLast ∈ sw_words := List.mem_filter.mpr ⟨List.mem_append_right _ (List.mem_of_getElem? (i := 298) (by decide +kernel)), by decide +kernel⟩
theorem kw_f4671b0b : Cond.instanceMethod y_Ta_removeLast ∈ sw_words := List.mem_filter.mpr ⟨List.mem_append_right _ (List.mem_of_getElem? (i := 299) (by decide +kernel)), by decide +kernel⟩
theorem kw_a5206cdb : Cond.selects R_Ta y_Ta_removeLast y_Ta_removeLast ∈ sw_words := List.mem_filter.mpr ⟨List.mem_append_right _ (List.mem_of_getElem? (i := 300) (by decide +kernel)), by decide +kernel⟩
theorem kw_4dcebae7 : Cond.fieldLink R_SW 136 "SectorWalk$Crossings" "count" "I" ∈ sw_words := List.mem_filter.mpr ⟨List.mem_append_right _ (List.mem_of_getElem? (i := 127) (by decide +kernel)), by decide +kernel⟩
theorem kw_7d5122a4 : Cond.fieldLink R_SW 137 "SectorWalk$Crossings" "order" "[I" ∈ sw_words := List.mem_filter.mpr ⟨List.mem_append_right _ (List.mem_of_getElem? (i := 123) (by decide +kernel)), by decide +kernel⟩
theorem kw_6fcea875 : Cond.fieldLink R_SW 140 "SectorWalk$Crossings" "firstStopper" "I" ∈ sw_words := List.mem_filter.mpr ⟨List.mem_append_right _ (List.mem_of_getElem? (i := 129) (by decide +kernel)), by decide +kernel⟩
theorem kw_a8ea2423 : Cond.constant R_SW 143 100000 ∈ sw_words := List.mem_filter.mpr ⟨List.mem_append_right _ (List.mem_of_getElem? (i := 372) (by decide +kernel)), by decide +kernel⟩
theorem kw_9f26c297 : Cond.fieldLink R_SW 94 "SectorWalk$Stand" "x" "I" ∈ sw_words := List.mem_filter.mpr ⟨List.mem_append_right _ (List.mem_of_getElem? (i := 99) (by decide +kernel)), by decide +kernel⟩
theorem kw_56a41615 : Cond.fieldLink R_SW 97 "SectorWalk$Stand" "y" "I" ∈ sw_words := List.mem_filter.mpr ⟨List.mem_append_right _ (List.mem_of_getElem? (i := 102) (by decide +kernel)), by decide +kernel⟩
theorem kw_15951c94 : Cond.fieldLink R_SW 100 "SectorWalk$Stand" "angle" "I" ∈ sw_words := List.mem_filter.mpr ⟨List.mem_append_right _ (List.mem_of_getElem? (i := 104) (by decide +kernel)), by decide +kernel⟩
theorem kw_ed767aad : Cond.fieldLink R_SW 103 "SectorWalk$Stand" "sector" "I" ∈ sw_words := List.mem_filter.mpr ⟨List.mem_append_right _ (List.mem_of_getElem? (i := 106) (by decide +kernel)), by decide +kernel⟩
theorem kw_29dc9459 : Cond.fieldLink R_SW 144 "SectorWalk$Plan" "vertexCount" "I" ∈ sw_words := List.mem_filter.mpr ⟨List.mem_append_right _ (List.mem_of_getElem? (i := 38) (by decide +kernel)), by decide +kernel⟩
theorem kw_fac11bd0 : Cond.fieldLink R_SW 147 "SectorWalk$Plan" "sectorCount" "I" ∈ sw_words := List.mem_filter.mpr ⟨List.mem_append_right _ (List.mem_of_getElem? (i := 40) (by decide +kernel)), by decide +kernel⟩
theorem kw_400d1ecd : Cond.fieldLink R_SW 150 "SectorWalk$Plan" "wallCount" "I" ∈ sw_words := List.mem_filter.mpr ⟨List.mem_append_right _ (List.mem_of_getElem? (i := 43) (by decide +kernel)), by decide +kernel⟩
theorem kw_22ade4b9 : Cond.fieldLink R_SW 120 "SectorWalk$Tape" "count" "I" ∈ sw_words := List.mem_filter.mpr ⟨List.mem_append_right _ (List.mem_of_getElem? (i := 81) (by decide +kernel)), by decide +kernel⟩
theorem kw_7c68a6d3 : Cond.methodLink R_SW 153 y_St_becomeCopyOf ∈ sw_words := List.mem_filter.mpr ⟨List.mem_append_right _ (List.mem_of_getElem? (i := 279) (by decide +kernel)), by decide +kernel⟩
theorem kw_e563fc38 : Cond.instanceMethod y_St_becomeCopyOf ∈ sw_words := List.mem_filter.mpr ⟨List.mem_append_right _ (List.mem_of_getElem? (i := 280) (by decide +kernel)), by decide +kernel⟩
theorem kw_6b48497f : Cond.selects R_St y_St_becomeCopyOf y_St_becomeCopyOf ∈ sw_words := List.mem_filter.mpr ⟨List.mem_append_right _ (List.mem_of_getElem? (i := 281) (by decide +kernel)), by decide +kernel⟩
theorem kw_826ad13d : Cond.methodLink R_SW 88 y_Cr_forget ∈ sw_words := List.mem_filter.mpr ⟨List.mem_append_right _ (List.mem_of_getElem? (i := 264) (by decide +kernel)), by decide +kernel⟩
theorem kw_f7d13208 : Cond.instanceMethod y_Cr_forget ∈ sw_words := List.mem_filter.mpr ⟨List.mem_append_right _ (List.mem_of_getElem? (i := 265) (by decide +kernel)), by decide +kernel⟩
theorem kw_3889778d : Cond.selects R_Cr y_Cr_forget y_Cr_forget ∈ sw_words := List.mem_filter.mpr ⟨List.mem_append_right _ (List.mem_of_getElem? (i := 266) (by decide +kernel)), by decide +kernel⟩
theorem kw_a919fc9b : Cond.methodLink R_SW 91 y_SW_isPlaceOfWalker ∈ sw_words := List.mem_filter.mpr ⟨List.mem_append_right _ (List.mem_of_getElem? (i := 272) (by decide +kernel)), by decide +kernel⟩
theorem kw_ebfe933a : Cond.static y_SW_isPlaceOfWalker ∈ sw_words := List.mem_filter.mpr ⟨List.mem_append_right _ (List.mem_of_getElem? (i := 273) (by decide +kernel)), by decide +kernel⟩
theorem kw_44931b2b : Cond.methodLink R_SW 106 y_SW_returnToOrigin ∈ sw_words := List.mem_filter.mpr ⟨List.mem_append_right _ (List.mem_of_getElem? (i := 275) (by decide +kernel)), by decide +kernel⟩
theorem kw_b40d6008 : Cond.instanceMethod y_SW_returnToOrigin ∈ sw_words := List.mem_filter.mpr ⟨List.mem_append_right _ (List.mem_of_getElem? (i := 277) (by decide +kernel)), by decide +kernel⟩
theorem kw_014270a4 : Cond.selects R_SW y_SW_returnToOrigin y_SW_returnToOrigin ∈ sw_words := List.mem_filter.mpr ⟨List.mem_append_left _ (List.mem_of_getElem? (i := 5) (by decide +kernel)), by decide +kernel⟩
theorem kw_66b59126 : Cond.methodLink R_SW 80 y_Pl_firstWrongWall ∈ sw_words := List.mem_filter.mpr ⟨List.mem_append_right _ (List.mem_of_getElem? (i := 225) (by decide +kernel)), by decide +kernel⟩
theorem kw_fd1df5ca : Cond.instanceMethod y_Pl_firstWrongWall ∈ sw_words := List.mem_filter.mpr ⟨List.mem_append_right _ (List.mem_of_getElem? (i := 226) (by decide +kernel)), by decide +kernel⟩
theorem kw_600648f4 : Cond.selects R_Pl y_Pl_firstWrongWall y_Pl_firstWrongWall ∈ sw_words := List.mem_filter.mpr ⟨List.mem_append_right _ (List.mem_of_getElem? (i := 227) (by decide +kernel)), by decide +kernel⟩
theorem kw_e2b6ec4d : Cond.methodLink R_SW 84 y_Pl_becomeCopyOf ∈ sw_words := List.mem_filter.mpr ⟨List.mem_append_right _ (List.mem_of_getElem? (i := 257) (by decide +kernel)), by decide +kernel⟩
theorem kw_a1f5b41b : Cond.instanceMethod y_Pl_becomeCopyOf ∈ sw_words := List.mem_filter.mpr ⟨List.mem_append_right _ (List.mem_of_getElem? (i := 258) (by decide +kernel)), by decide +kernel⟩
theorem kw_79f61b50 : Cond.selects R_Pl y_Pl_becomeCopyOf y_Pl_becomeCopyOf ∈ sw_words := List.mem_filter.mpr ⟨List.mem_append_right _ (List.mem_of_getElem? (i := 259) (by decide +kernel)), by decide +kernel⟩
theorem kw_b101ef22 : Cond.methodLink R_SW 161 y_SW_cosineOf ∈ sw_words := List.mem_filter.mpr ⟨List.mem_append_right _ (List.mem_of_getElem? (i := 313) (by decide +kernel)), by decide +kernel⟩
theorem kw_89dce12a : Cond.static y_SW_cosineOf ∈ sw_words := List.mem_filter.mpr ⟨List.mem_append_right _ (List.mem_of_getElem? (i := 314) (by decide +kernel)), by decide +kernel⟩
theorem kw_b0115a39 : Cond.methodLink R_SW 165 y_Math_floorDiv ∈ sw_words := List.mem_filter.mpr ⟨List.mem_append_right _ (List.mem_of_getElem? (i := 318) (by decide +kernel)), by decide +kernel⟩
theorem kw_ec78e224 : Cond.static y_Math_floorDiv ∈ sw_words := List.mem_filter.mpr ⟨List.mem_append_right _ (List.mem_of_getElem? (i := 319) (by decide +kernel)), by decide +kernel⟩
theorem kw_6664023e : Cond.methodLink R_SW 168 y_Cr_fill ∈ sw_words := List.mem_filter.mpr ⟨List.mem_append_right _ (List.mem_of_getElem? (i := 321) (by decide +kernel)), by decide +kernel⟩
theorem kw_21d23617 : Cond.instanceMethod y_Cr_fill ∈ sw_words := List.mem_filter.mpr ⟨List.mem_append_right _ (List.mem_of_getElem? (i := 322) (by decide +kernel)), by decide +kernel⟩
theorem kw_c6643c00 : Cond.selects R_Cr y_Cr_fill y_Cr_fill ∈ sw_words := List.mem_filter.mpr ⟨List.mem_append_right _ (List.mem_of_getElem? (i := 323) (by decide +kernel)), by decide +kernel⟩
theorem kw_ee663f37 : Cond.methodLink R_SW 172 y_Cr_sectorBehind ∈ sw_words := List.mem_filter.mpr ⟨List.mem_append_right _ (List.mem_of_getElem? (i := 352) (by decide +kernel)), by decide +kernel⟩
theorem kw_6a419308 : Cond.instanceMethod y_Cr_sectorBehind ∈ sw_words := List.mem_filter.mpr ⟨List.mem_append_right _ (List.mem_of_getElem? (i := 353) (by decide +kernel)), by decide +kernel⟩
theorem kw_a9084629 : Cond.selects R_Cr y_Cr_sectorBehind y_Cr_sectorBehind ∈ sw_words := List.mem_filter.mpr ⟨List.mem_append_right _ (List.mem_of_getElem? (i := 354) (by decide +kernel)), by decide +kernel⟩
theorem kw_958b0ec0 : Cond.methodLink R_SW 133 y_SW_walk ∈ sw_words := List.mem_filter.mpr ⟨List.mem_append_right _ (List.mem_of_getElem? (i := 306) (by decide +kernel)), by decide +kernel⟩
theorem kw_69bfcabd : Cond.instanceMethod y_SW_walk ∈ sw_words := List.mem_filter.mpr ⟨List.mem_append_right _ (List.mem_of_getElem? (i := 308) (by decide +kernel)), by decide +kernel⟩
theorem kw_cfa70cf4 : Cond.selects R_SW y_SW_walk y_SW_walk ∈ sw_words := List.mem_filter.mpr ⟨List.mem_append_left _ (List.mem_of_getElem? (i := 6) (by decide +kernel)), by decide +kernel⟩
theorem kw_4dc7abc3 : Cond.fieldLink R_SW 123 "SectorWalk$Tape" "ahead" "[I" ∈ sw_words := List.mem_filter.mpr ⟨List.mem_append_right _ (List.mem_of_getElem? (i := 75) (by decide +kernel)), by decide +kernel⟩
theorem kw_eba03d32 : Cond.fieldLink R_SW 127 "SectorWalk$Tape" "aside" "[I" ∈ sw_words := List.mem_filter.mpr ⟨List.mem_append_right _ (List.mem_of_getElem? (i := 77) (by decide +kernel)), by decide +kernel⟩
theorem kw_741099aa : Cond.fieldLink R_SW 130 "SectorWalk$Tape" "turn" "[I" ∈ sw_words := List.mem_filter.mpr ⟨List.mem_append_right _ (List.mem_of_getElem? (i := 79) (by decide +kernel)), by decide +kernel⟩
theorem ku_SW : ∀ w ∈ u_ws R_SW F_SW 8, w ∈ sw_words := by
  intro w hw
  obtain ⟨k, hk, rfl⟩ := List.mem_map.mp hw
  have hk := List.mem_range.mp hk
  match k, hk with
  | 0, _ => exact List.mem_filter.mpr ⟨List.mem_append_right _ (List.mem_of_getElem? (i := 149) (by decide +kernel)), by decide +kernel⟩
  | 1, _ => exact List.mem_filter.mpr ⟨List.mem_append_right _ (List.mem_of_getElem? (i := 151) (by decide +kernel)), by decide +kernel⟩
  | 2, _ => exact List.mem_filter.mpr ⟨List.mem_append_right _ (List.mem_of_getElem? (i := 153) (by decide +kernel)), by decide +kernel⟩
  | 3, _ => exact List.mem_filter.mpr ⟨List.mem_append_right _ (List.mem_of_getElem? (i := 155) (by decide +kernel)), by decide +kernel⟩
  | 4, _ => exact List.mem_filter.mpr ⟨List.mem_append_right _ (List.mem_of_getElem? (i := 157) (by decide +kernel)), by decide +kernel⟩
  | 5, _ => exact List.mem_filter.mpr ⟨List.mem_append_right _ (List.mem_of_getElem? (i := 159) (by decide +kernel)), by decide +kernel⟩
  | 6, _ => exact List.mem_filter.mpr ⟨List.mem_append_right _ (List.mem_of_getElem? (i := 161) (by decide +kernel)), by decide +kernel⟩
  | 7, _ => exact List.mem_filter.mpr ⟨List.mem_append_right _ (List.mem_of_getElem? (i := 163) (by decide +kernel)), by decide +kernel⟩
theorem ku_Pl : ∀ w ∈ u_ws R_Pl F_Pl 11, w ∈ sw_words := by
  intro w hw
  obtain ⟨k, hk, rfl⟩ := List.mem_map.mp hw
  have hk := List.mem_range.mp hk
  match k, hk with
  | 0, _ => exact List.mem_filter.mpr ⟨List.mem_append_right _ (List.mem_of_getElem? (i := 44) (by decide +kernel)), by decide +kernel⟩
  | 1, _ => exact List.mem_filter.mpr ⟨List.mem_append_right _ (List.mem_of_getElem? (i := 46) (by decide +kernel)), by decide +kernel⟩
  | 2, _ => exact List.mem_filter.mpr ⟨List.mem_append_right _ (List.mem_of_getElem? (i := 48) (by decide +kernel)), by decide +kernel⟩
  | 3, _ => exact List.mem_filter.mpr ⟨List.mem_append_right _ (List.mem_of_getElem? (i := 50) (by decide +kernel)), by decide +kernel⟩
  | 4, _ => exact List.mem_filter.mpr ⟨List.mem_append_right _ (List.mem_of_getElem? (i := 52) (by decide +kernel)), by decide +kernel⟩
  | 5, _ => exact List.mem_filter.mpr ⟨List.mem_append_right _ (List.mem_of_getElem? (i := 54) (by decide +kernel)), by decide +kernel⟩
  | 6, _ => exact List.mem_filter.mpr ⟨List.mem_append_right _ (List.mem_of_getElem? (i := 56) (by decide +kernel)), by decide +kernel⟩
  | 7, _ => exact List.mem_filter.mpr ⟨List.mem_append_right _ (List.mem_of_getElem? (i := 58) (by decide +kernel)), by decide +kernel⟩
  | 8, _ => exact List.mem_filter.mpr ⟨List.mem_append_right _ (List.mem_of_getElem? (i := 60) (by decide +kernel)), by decide +kernel⟩
  | 9, _ => exact List.mem_filter.mpr ⟨List.mem_append_right _ (List.mem_of_getElem? (i := 62) (by decide +kernel)), by decide +kernel⟩
  | 10, _ => exact List.mem_filter.mpr ⟨List.mem_append_right _ (List.mem_of_getElem? (i := 64) (by decide +kernel)), by decide +kernel⟩
theorem ku_Ta : ∀ w ∈ u_ws R_Ta F_Ta 4, w ∈ sw_words := by
  intro w hw
  obtain ⟨k, hk, rfl⟩ := List.mem_map.mp hw
  have hk := List.mem_range.mp hk
  match k, hk with
  | 0, _ => exact List.mem_filter.mpr ⟨List.mem_append_right _ (List.mem_of_getElem? (i := 82) (by decide +kernel)), by decide +kernel⟩
  | 1, _ => exact List.mem_filter.mpr ⟨List.mem_append_right _ (List.mem_of_getElem? (i := 84) (by decide +kernel)), by decide +kernel⟩
  | 2, _ => exact List.mem_filter.mpr ⟨List.mem_append_right _ (List.mem_of_getElem? (i := 86) (by decide +kernel)), by decide +kernel⟩
  | 3, _ => exact List.mem_filter.mpr ⟨List.mem_append_right _ (List.mem_of_getElem? (i := 88) (by decide +kernel)), by decide +kernel⟩
theorem ku_St : ∀ w ∈ u_ws R_St F_St 4, w ∈ sw_words := by
  intro w hw
  obtain ⟨k, hk, rfl⟩ := List.mem_map.mp hw
  have hk := List.mem_range.mp hk
  match k, hk with
  | 0, _ => exact List.mem_filter.mpr ⟨List.mem_append_right _ (List.mem_of_getElem? (i := 107) (by decide +kernel)), by decide +kernel⟩
  | 1, _ => exact List.mem_filter.mpr ⟨List.mem_append_right _ (List.mem_of_getElem? (i := 109) (by decide +kernel)), by decide +kernel⟩
  | 2, _ => exact List.mem_filter.mpr ⟨List.mem_append_right _ (List.mem_of_getElem? (i := 111) (by decide +kernel)), by decide +kernel⟩
  | 3, _ => exact List.mem_filter.mpr ⟨List.mem_append_right _ (List.mem_of_getElem? (i := 113) (by decide +kernel)), by decide +kernel⟩
theorem ku_Cr : ∀ w ∈ u_ws R_Cr F_Cr 5, w ∈ sw_words := by
  intro w hw
  obtain ⟨k, hk, rfl⟩ := List.mem_map.mp hw
  have hk := List.mem_range.mp hk
  match k, hk with
  | 0, _ => exact List.mem_filter.mpr ⟨List.mem_append_right _ (List.mem_of_getElem? (i := 130) (by decide +kernel)), by decide +kernel⟩
  | 1, _ => exact List.mem_filter.mpr ⟨List.mem_append_right _ (List.mem_of_getElem? (i := 132) (by decide +kernel)), by decide +kernel⟩
  | 2, _ => exact List.mem_filter.mpr ⟨List.mem_append_right _ (List.mem_of_getElem? (i := 134) (by decide +kernel)), by decide +kernel⟩
  | 3, _ => exact List.mem_filter.mpr ⟨List.mem_append_right _ (List.mem_of_getElem? (i := 136) (by decide +kernel)), by decide +kernel⟩
  | 4, _ => exact List.mem_filter.mpr ⟨List.mem_append_right _ (List.mem_of_getElem? (i := 138) (by decide +kernel)), by decide +kernel⟩
theorem ku_Mo : ∀ w ∈ u_ws R_Mo F_Mo 36, w ∈ sw_words := by
  intro w hw
  obtain ⟨k, hk, rfl⟩ := List.mem_map.mp hw
  have hk := List.mem_range.mp hk
  match k, hk with
  | 0, _ => exact List.mem_filter.mpr ⟨List.mem_append_right _ (List.mem_of_getElem? (i := 419) (by decide +kernel)), by decide +kernel⟩
  | 1, _ => exact List.mem_filter.mpr ⟨List.mem_append_right _ (List.mem_of_getElem? (i := 421) (by decide +kernel)), by decide +kernel⟩
  | 2, _ => exact List.mem_filter.mpr ⟨List.mem_append_right _ (List.mem_of_getElem? (i := 423) (by decide +kernel)), by decide +kernel⟩
  | 3, _ => exact List.mem_filter.mpr ⟨List.mem_append_right _ (List.mem_of_getElem? (i := 425) (by decide +kernel)), by decide +kernel⟩
  | 4, _ => exact List.mem_filter.mpr ⟨List.mem_append_right _ (List.mem_of_getElem? (i := 427) (by decide +kernel)), by decide +kernel⟩
  | 5, _ => exact List.mem_filter.mpr ⟨List.mem_append_right _ (List.mem_of_getElem? (i := 429) (by decide +kernel)), by decide +kernel⟩
  | 6, _ => exact List.mem_filter.mpr ⟨List.mem_append_right _ (List.mem_of_getElem? (i := 431) (by decide +kernel)), by decide +kernel⟩
  | 7, _ => exact List.mem_filter.mpr ⟨List.mem_append_right _ (List.mem_of_getElem? (i := 433) (by decide +kernel)), by decide +kernel⟩
  | 8, _ => exact List.mem_filter.mpr ⟨List.mem_append_right _ (List.mem_of_getElem? (i := 435) (by decide +kernel)), by decide +kernel⟩
  | 9, _ => exact List.mem_filter.mpr ⟨List.mem_append_right _ (List.mem_of_getElem? (i := 437) (by decide +kernel)), by decide +kernel⟩
  | 10, _ => exact List.mem_filter.mpr ⟨List.mem_append_right _ (List.mem_of_getElem? (i := 439) (by decide +kernel)), by decide +kernel⟩
  | 11, _ => exact List.mem_filter.mpr ⟨List.mem_append_right _ (List.mem_of_getElem? (i := 441) (by decide +kernel)), by decide +kernel⟩
  | 12, _ => exact List.mem_filter.mpr ⟨List.mem_append_right _ (List.mem_of_getElem? (i := 443) (by decide +kernel)), by decide +kernel⟩
  | 13, _ => exact List.mem_filter.mpr ⟨List.mem_append_right _ (List.mem_of_getElem? (i := 445) (by decide +kernel)), by decide +kernel⟩
  | 14, _ => exact List.mem_filter.mpr ⟨List.mem_append_right _ (List.mem_of_getElem? (i := 447) (by decide +kernel)), by decide +kernel⟩
  | 15, _ => exact List.mem_filter.mpr ⟨List.mem_append_right _ (List.mem_of_getElem? (i := 449) (by decide +kernel)), by decide +kernel⟩
  | 16, _ => exact List.mem_filter.mpr ⟨List.mem_append_right _ (List.mem_of_getElem? (i := 451) (by decide +kernel)), by decide +kernel⟩
  | 17, _ => exact List.mem_filter.mpr ⟨List.mem_append_right _ (List.mem_of_getElem? (i := 453) (by decide +kernel)), by decide +kernel⟩
  | 18, _ => exact List.mem_filter.mpr ⟨List.mem_append_right _ (List.mem_of_getElem? (i := 455) (by decide +kernel)), by decide +kernel⟩
  | 19, _ => exact List.mem_filter.mpr ⟨List.mem_append_right _ (List.mem_of_getElem? (i := 457) (by decide +kernel)), by decide +kernel⟩
  | 20, _ => exact List.mem_filter.mpr ⟨List.mem_append_right _ (List.mem_of_getElem? (i := 459) (by decide +kernel)), by decide +kernel⟩
  | 21, _ => exact List.mem_filter.mpr ⟨List.mem_append_right _ (List.mem_of_getElem? (i := 461) (by decide +kernel)), by decide +kernel⟩
  | 22, _ => exact List.mem_filter.mpr ⟨List.mem_append_right _ (List.mem_of_getElem? (i := 463) (by decide +kernel)), by decide +kernel⟩
  | 23, _ => exact List.mem_filter.mpr ⟨List.mem_append_right _ (List.mem_of_getElem? (i := 465) (by decide +kernel)), by decide +kernel⟩
  | 24, _ => exact List.mem_filter.mpr ⟨List.mem_append_right _ (List.mem_of_getElem? (i := 467) (by decide +kernel)), by decide +kernel⟩
  | 25, _ => exact List.mem_filter.mpr ⟨List.mem_append_right _ (List.mem_of_getElem? (i := 469) (by decide +kernel)), by decide +kernel⟩
  | 26, _ => exact List.mem_filter.mpr ⟨List.mem_append_right _ (List.mem_of_getElem? (i := 471) (by decide +kernel)), by decide +kernel⟩
  | 27, _ => exact List.mem_filter.mpr ⟨List.mem_append_right _ (List.mem_of_getElem? (i := 473) (by decide +kernel)), by decide +kernel⟩
  | 28, _ => exact List.mem_filter.mpr ⟨List.mem_append_right _ (List.mem_of_getElem? (i := 475) (by decide +kernel)), by decide +kernel⟩
  | 29, _ => exact List.mem_filter.mpr ⟨List.mem_append_right _ (List.mem_of_getElem? (i := 477) (by decide +kernel)), by decide +kernel⟩
  | 30, _ => exact List.mem_filter.mpr ⟨List.mem_append_right _ (List.mem_of_getElem? (i := 479) (by decide +kernel)), by decide +kernel⟩
  | 31, _ => exact List.mem_filter.mpr ⟨List.mem_append_right _ (List.mem_of_getElem? (i := 481) (by decide +kernel)), by decide +kernel⟩
  | 32, _ => exact List.mem_filter.mpr ⟨List.mem_append_right _ (List.mem_of_getElem? (i := 483) (by decide +kernel)), by decide +kernel⟩
  | 33, _ => exact List.mem_filter.mpr ⟨List.mem_append_right _ (List.mem_of_getElem? (i := 485) (by decide +kernel)), by decide +kernel⟩
  | 34, _ => exact List.mem_filter.mpr ⟨List.mem_append_right _ (List.mem_of_getElem? (i := 487) (by decide +kernel)), by decide +kernel⟩
  | 35, _ => exact List.mem_filter.mpr ⟨List.mem_append_right _ (List.mem_of_getElem? (i := 489) (by decide +kernel)), by decide +kernel⟩
  | k + 36, h => exact absurd h (by omega)
def sw_nest : List (String × Nat × MethodName × String) := [(R_Pl, 71, y_SW_cross, "SectorWalk"), (R_Cr, 69, y_SW_cross, "SectorWalk"), (R_SW, 9, y_Pl_init, "SectorWalk"), (R_SW, 21, y_Ta_init, "SectorWalk"), (R_SW, 28, y_St_init, "SectorWalk"), (R_SW, 38, y_Cr_init, "SectorWalk")]
end
section
theorem d_Math_floorDiv_0 : decode b_Math_floorDiv 0 = .ok (.iload_n 0, 1) := by decide +kernel
theorem d_Math_floorDiv_1 : decode b_Math_floorDiv 1 = .ok (.iload_n 1, 1) := by decide +kernel
theorem d_Math_floorDiv_2 : decode b_Math_floorDiv 2 = .ok (.idiv, 1) := by decide +kernel
theorem d_Math_floorDiv_3 : decode b_Math_floorDiv 3 = .ok (.istore_n 2, 1) := by decide +kernel
theorem d_Math_floorDiv_4 : decode b_Math_floorDiv 4 = .ok (.iload_n 0, 1) := by decide +kernel
theorem d_Math_floorDiv_5 : decode b_Math_floorDiv 5 = .ok (.iload_n 1, 1) := by decide +kernel
theorem d_Math_floorDiv_6 : decode b_Math_floorDiv 6 = .ok (.ixor, 1) := by decide +kernel
theorem d_Math_floorDiv_7 : decode b_Math_floorDiv 7 = .ok (.ifCond .ge 14, 3) := by decide +kernel
theorem d_Math_floorDiv_10 : decode b_Math_floorDiv 10 = .ok (.iload_n 2, 1) := by decide +kernel
theorem d_Math_floorDiv_11 : decode b_Math_floorDiv 11 = .ok (.iload_n 1, 1) := by decide +kernel
theorem d_Math_floorDiv_12 : decode b_Math_floorDiv 12 = .ok (.imul, 1) := by decide +kernel
theorem d_Math_floorDiv_13 : decode b_Math_floorDiv 13 = .ok (.iload_n 0, 1) := by decide +kernel
theorem d_Math_floorDiv_14 : decode b_Math_floorDiv 14 = .ok (.if_icmp .eq 7, 3) := by decide +kernel
theorem d_Math_floorDiv_17 : decode b_Math_floorDiv 17 = .ok (.iload_n 2, 1) := by decide +kernel
theorem d_Math_floorDiv_18 : decode b_Math_floorDiv 18 = .ok (.iconst 1, 1) := by decide +kernel
theorem d_Math_floorDiv_19 : decode b_Math_floorDiv 19 = .ok (.isub, 1) := by decide +kernel
theorem d_Math_floorDiv_20 : decode b_Math_floorDiv 20 = .ok (.ireturn, 1) := by decide +kernel
theorem d_Math_floorDiv_21 : decode b_Math_floorDiv 21 = .ok (.iload_n 2, 1) := by decide +kernel
theorem d_Math_floorDiv_22 : decode b_Math_floorDiv 22 = .ok (.ireturn, 1) := by decide +kernel
theorem d_Math_floorMod_0 : decode b_Math_floorMod 0 = .ok (.iload_n 0, 1) := by decide +kernel
theorem d_Math_floorMod_1 : decode b_Math_floorMod 1 = .ok (.iload_n 1, 1) := by decide +kernel
theorem d_Math_floorMod_2 : decode b_Math_floorMod 2 = .ok (.irem, 1) := by decide +kernel
theorem d_Math_floorMod_3 : decode b_Math_floorMod 3 = .ok (.istore_n 2, 1) := by decide +kernel
theorem d_Math_floorMod_4 : decode b_Math_floorMod 4 = .ok (.iload_n 0, 1) := by decide +kernel
theorem d_Math_floorMod_5 : decode b_Math_floorMod 5 = .ok (.iload_n 1, 1) := by decide +kernel
theorem d_Math_floorMod_6 : decode b_Math_floorMod 6 = .ok (.ixor, 1) := by decide +kernel
theorem d_Math_floorMod_7 : decode b_Math_floorMod 7 = .ok (.ifCond .ge 11, 3) := by decide +kernel
theorem d_Math_floorMod_10 : decode b_Math_floorMod 10 = .ok (.iload_n 2, 1) := by decide +kernel
theorem d_Math_floorMod_11 : decode b_Math_floorMod 11 = .ok (.ifCond .eq 7, 3) := by decide +kernel
theorem d_Math_floorMod_14 : decode b_Math_floorMod 14 = .ok (.iload_n 2, 1) := by decide +kernel
theorem d_Math_floorMod_15 : decode b_Math_floorMod 15 = .ok (.iload_n 1, 1) := by decide +kernel
theorem d_Math_floorMod_16 : decode b_Math_floorMod 16 = .ok (.iadd, 1) := by decide +kernel
theorem d_Math_floorMod_17 : decode b_Math_floorMod 17 = .ok (.ireturn, 1) := by decide +kernel
theorem d_Math_floorMod_18 : decode b_Math_floorMod 18 = .ok (.iload_n 2, 1) := by decide +kernel
theorem d_Math_floorMod_19 : decode b_Math_floorMod 19 = .ok (.ireturn, 1) := by decide +kernel
theorem d_SW_isWithin_0 : decode b_SW_isWithin 0 = .ok (.iload_n 0, 1) := by decide +kernel
theorem d_SW_isWithin_1 : decode b_SW_isWithin 1 = .ok (.iload_n 1, 1) := by decide +kernel
theorem d_SW_isWithin_2 : decode b_SW_isWithin 2 = .ok (.ineg, 1) := by decide +kernel
theorem d_SW_isWithin_3 : decode b_SW_isWithin 3 = .ok (.if_icmp .lt 12, 3) := by decide +kernel
theorem d_SW_isWithin_6 : decode b_SW_isWithin 6 = .ok (.iload_n 0, 1) := by decide +kernel
theorem d_SW_isWithin_7 : decode b_SW_isWithin 7 = .ok (.iload_n 1, 1) := by decide +kernel
theorem d_SW_isWithin_8 : decode b_SW_isWithin 8 = .ok (.if_icmp .gt 7, 3) := by decide +kernel
theorem d_SW_isWithin_11 : decode b_SW_isWithin 11 = .ok (.iconst 1, 1) := by decide +kernel
theorem d_SW_isWithin_12 : decode b_SW_isWithin 12 = .ok (.goto 4, 3) := by decide +kernel
theorem d_SW_isWithin_15 : decode b_SW_isWithin 15 = .ok (.iconst 0, 1) := by decide +kernel
theorem d_SW_isWithin_16 : decode b_SW_isWithin 16 = .ok (.ireturn, 1) := by decide +kernel
theorem d_SW_isPlaceOfWalker_0 : decode b_SW_isPlaceOfWalker 0 = .ok (.iload_n 0, 1) := by decide +kernel
theorem d_SW_isPlaceOfWalker_1 : decode b_SW_isPlaceOfWalker 1 = .ok (.sipush 3000, 3) := by decide +kernel
theorem d_SW_isPlaceOfWalker_4 : decode b_SW_isPlaceOfWalker 4 = .ok (.invokestatic 51, 3) := by decide +kernel
theorem d_SW_isPlaceOfWalker_7 : decode b_SW_isPlaceOfWalker 7 = .ok (.ifCond .eq 17, 3) := by decide +kernel
theorem d_SW_isPlaceOfWalker_10 : decode b_SW_isPlaceOfWalker 10 = .ok (.iload_n 1, 1) := by decide +kernel
theorem d_SW_isPlaceOfWalker_11 : decode b_SW_isPlaceOfWalker 11 = .ok (.sipush 3000, 3) := by decide +kernel
theorem d_SW_isPlaceOfWalker_14 : decode b_SW_isPlaceOfWalker 14 = .ok (.invokestatic 51, 3) := by decide +kernel
theorem d_SW_isPlaceOfWalker_17 : decode b_SW_isPlaceOfWalker 17 = .ok (.ifCond .eq 7, 3) := by decide +kernel
theorem d_SW_isPlaceOfWalker_20 : decode b_SW_isPlaceOfWalker 20 = .ok (.iconst 1, 1) := by decide +kernel
theorem d_SW_isPlaceOfWalker_21 : decode b_SW_isPlaceOfWalker 21 = .ok (.goto 4, 3) := by decide +kernel
theorem d_SW_isPlaceOfWalker_24 : decode b_SW_isPlaceOfWalker 24 = .ok (.iconst 0, 1) := by decide +kernel
theorem d_SW_isPlaceOfWalker_25 : decode b_SW_isPlaceOfWalker 25 = .ok (.ireturn, 1) := by decide +kernel
theorem d_SW_isInput_0 : decode b_SW_isInput 0 = .ok (.iload_n 0, 1) := by decide +kernel
theorem d_SW_isInput_1 : decode b_SW_isInput 1 = .ok (.bipush 64, 2) := by decide +kernel
theorem d_SW_isInput_3 : decode b_SW_isInput 3 = .ok (.invokestatic 51, 3) := by decide +kernel
theorem d_SW_isInput_6 : decode b_SW_isInput 6 = .ok (.ifCond .eq 25, 3) := by decide +kernel
theorem d_SW_isInput_9 : decode b_SW_isInput 9 = .ok (.iload_n 1, 1) := by decide +kernel
theorem d_SW_isInput_10 : decode b_SW_isInput 10 = .ok (.bipush 64, 2) := by decide +kernel
theorem d_SW_isInput_12 : decode b_SW_isInput 12 = .ok (.invokestatic 51, 3) := by decide +kernel
theorem d_SW_isInput_15 : decode b_SW_isInput 15 = .ok (.ifCond .eq 16, 3) := by decide +kernel
theorem d_SW_isInput_18 : decode b_SW_isInput 18 = .ok (.iload_n 2, 1) := by decide +kernel
theorem d_SW_isInput_19 : decode b_SW_isInput 19 = .ok (.bipush 16, 2) := by decide +kernel
theorem d_SW_isInput_21 : decode b_SW_isInput 21 = .ok (.invokestatic 51, 3) := by decide +kernel
theorem d_SW_isInput_24 : decode b_SW_isInput 24 = .ok (.ifCond .eq 7, 3) := by decide +kernel
theorem d_SW_isInput_27 : decode b_SW_isInput 27 = .ok (.iconst 1, 1) := by decide +kernel
theorem d_SW_isInput_28 : decode b_SW_isInput 28 = .ok (.goto 4, 3) := by decide +kernel
theorem d_SW_isInput_31 : decode b_SW_isInput 31 = .ok (.iconst 0, 1) := by decide +kernel
theorem d_SW_isInput_32 : decode b_SW_isInput 32 = .ok (.ireturn, 1) := by decide +kernel
theorem d_SW_cross_0 : decode b_SW_cross 0 = .ok (.iload_n 0, 1) := by decide +kernel
theorem d_SW_cross_1 : decode b_SW_cross 1 = .ok (.iload_n 3, 1) := by decide +kernel
theorem d_SW_cross_2 : decode b_SW_cross 2 = .ok (.imul, 1) := by decide +kernel
theorem d_SW_cross_3 : decode b_SW_cross 3 = .ok (.iload_n 1, 1) := by decide +kernel
theorem d_SW_cross_4 : decode b_SW_cross 4 = .ok (.iload_n 2, 1) := by decide +kernel
theorem d_SW_cross_5 : decode b_SW_cross 5 = .ok (.imul, 1) := by decide +kernel
theorem d_SW_cross_6 : decode b_SW_cross 6 = .ok (.isub, 1) := by decide +kernel
theorem d_SW_cross_7 : decode b_SW_cross 7 = .ok (.ireturn, 1) := by decide +kernel
theorem d_SW_cosineOf_0 : decode b_SW_cosineOf 0 = .ok (.iload_n 0, 1) := by decide +kernel
theorem d_SW_cosineOf_1 : decode b_SW_cosineOf 1 = .ok (.bipush 64, 2) := by decide +kernel
theorem d_SW_cosineOf_3 : decode b_SW_cosineOf 3 = .ok (.invokestatic 156, 3) := by decide +kernel
theorem d_SW_cosineOf_6 : decode b_SW_cosineOf 6 = .ok (.istore_n 1, 1) := by decide +kernel
theorem d_SW_cosineOf_7 : decode b_SW_cosineOf 7 = .ok (.iload_n 1, 1) := by decide +kernel
theorem d_SW_cosineOf_8 : decode b_SW_cosineOf 8 = .ok (.bipush 32, 2) := by decide +kernel
theorem d_SW_cosineOf_10 : decode b_SW_cosineOf 10 = .ok (.if_icmp .gt 7, 3) := by decide +kernel
theorem d_SW_cosineOf_13 : decode b_SW_cosineOf 13 = .ok (.iload_n 1, 1) := by decide +kernel
theorem d_SW_cosineOf_14 : decode b_SW_cosineOf 14 = .ok (.goto 7, 3) := by decide +kernel
theorem d_SW_cosineOf_17 : decode b_SW_cosineOf 17 = .ok (.bipush 64, 2) := by decide +kernel
theorem d_SW_cosineOf_19 : decode b_SW_cosineOf 19 = .ok (.iload_n 1, 1) := by decide +kernel
theorem d_SW_cosineOf_20 : decode b_SW_cosineOf 20 = .ok (.isub, 1) := by decide +kernel
theorem d_SW_cosineOf_21 : decode b_SW_cosineOf 21 = .ok (.istore_n 2, 1) := by decide +kernel
theorem d_SW_cosineOf_22 : decode b_SW_cosineOf 22 = .ok (.iload_n 2, 1) := by decide +kernel
theorem d_SW_cosineOf_23 : decode b_SW_cosineOf 23 = .ok (.bipush 16, 2) := by decide +kernel
theorem d_SW_cosineOf_25 : decode b_SW_cosineOf 25 = .ok (.if_icmp .gt 9, 3) := by decide +kernel
theorem d_SW_cosineOf_28 : decode b_SW_cosineOf 28 = .ok (.getstatic 176, 3) := by decide +kernel
theorem d_SW_cosineOf_31 : decode b_SW_cosineOf 31 = .ok (.iload_n 2, 1) := by decide +kernel
theorem d_SW_cosineOf_32 : decode b_SW_cosineOf 32 = .ok (.iaload, 1) := by decide +kernel
theorem d_SW_cosineOf_33 : decode b_SW_cosineOf 33 = .ok (.ireturn, 1) := by decide +kernel
theorem d_SW_cosineOf_34 : decode b_SW_cosineOf 34 = .ok (.getstatic 176, 3) := by decide +kernel
theorem d_SW_cosineOf_37 : decode b_SW_cosineOf 37 = .ok (.bipush 32, 2) := by decide +kernel
theorem d_SW_cosineOf_39 : decode b_SW_cosineOf 39 = .ok (.iload_n 2, 1) := by decide +kernel
theorem d_SW_cosineOf_40 : decode b_SW_cosineOf 40 = .ok (.isub, 1) := by decide +kernel
theorem d_SW_cosineOf_41 : decode b_SW_cosineOf 41 = .ok (.iaload, 1) := by decide +kernel
theorem d_SW_cosineOf_42 : decode b_SW_cosineOf 42 = .ok (.ineg, 1) := by decide +kernel
theorem d_SW_cosineOf_43 : decode b_SW_cosineOf 43 = .ok (.ireturn, 1) := by decide +kernel
theorem d_Pl_hasVertex_0 : decode b_Pl_hasVertex 0 = .ok (.iload_n 1, 1) := by decide +kernel
theorem d_Pl_hasVertex_1 : decode b_Pl_hasVertex 1 = .ok (.ifCond .lt 15, 3) := by decide +kernel
theorem d_Pl_hasVertex_4 : decode b_Pl_hasVertex 4 = .ok (.iload_n 1, 1) := by decide +kernel
theorem d_Pl_hasVertex_5 : decode b_Pl_hasVertex 5 = .ok (.aload_n 0, 1) := by decide +kernel
theorem d_Pl_hasVertex_6 : decode b_Pl_hasVertex 6 = .ok (.getfield 36, 3) := by decide +kernel
theorem d_Pl_hasVertex_9 : decode b_Pl_hasVertex 9 = .ok (.if_icmp .ge 7, 3) := by decide +kernel
theorem d_Pl_hasVertex_12 : decode b_Pl_hasVertex 12 = .ok (.iconst 1, 1) := by decide +kernel
theorem d_Pl_hasVertex_13 : decode b_Pl_hasVertex 13 = .ok (.goto 4, 3) := by decide +kernel
theorem d_Pl_hasVertex_16 : decode b_Pl_hasVertex 16 = .ok (.iconst 0, 1) := by decide +kernel
theorem d_Pl_hasVertex_17 : decode b_Pl_hasVertex 17 = .ok (.ireturn, 1) := by decide +kernel
theorem d_Pl_hasSector_0 : decode b_Pl_hasSector 0 = .ok (.iload_n 1, 1) := by decide +kernel
theorem d_Pl_hasSector_1 : decode b_Pl_hasSector 1 = .ok (.ifCond .lt 15, 3) := by decide +kernel
theorem d_Pl_hasSector_4 : decode b_Pl_hasSector 4 = .ok (.iload_n 1, 1) := by decide +kernel
theorem d_Pl_hasSector_5 : decode b_Pl_hasSector 5 = .ok (.aload_n 0, 1) := by decide +kernel
theorem d_Pl_hasSector_6 : decode b_Pl_hasSector 6 = .ok (.getfield 40, 3) := by decide +kernel
theorem d_Pl_hasSector_9 : decode b_Pl_hasSector 9 = .ok (.if_icmp .ge 7, 3) := by decide +kernel
theorem d_Pl_hasSector_12 : decode b_Pl_hasSector 12 = .ok (.iconst 1, 1) := by decide +kernel
theorem d_Pl_hasSector_13 : decode b_Pl_hasSector 13 = .ok (.goto 4, 3) := by decide +kernel
theorem d_Pl_hasSector_16 : decode b_Pl_hasSector 16 = .ok (.iconst 0, 1) := by decide +kernel
theorem d_Pl_hasSector_17 : decode b_Pl_hasSector 17 = .ok (.ireturn, 1) := by decide +kernel
theorem d_Pl_isTaken_0 : decode b_Pl_isTaken 0 = .ok (.iconst 0, 1) := by decide +kernel
theorem d_Pl_isTaken_1 : decode b_Pl_isTaken 1 = .ok (.istore_n 3, 1) := by decide +kernel
theorem d_Pl_isTaken_2 : decode b_Pl_isTaken 2 = .ok (.iload_n 3, 1) := by decide +kernel
theorem d_Pl_isTaken_3 : decode b_Pl_isTaken 3 = .ok (.aload_n 0, 1) := by decide +kernel
theorem d_Pl_isTaken_4 : decode b_Pl_isTaken 4 = .ok (.getfield 36, 3) := by decide +kernel
theorem d_Pl_isTaken_7 : decode b_Pl_isTaken 7 = .ok (.if_icmp .ge 31, 3) := by decide +kernel
theorem d_Pl_isTaken_10 : decode b_Pl_isTaken 10 = .ok (.aload_n 0, 1) := by decide +kernel
theorem d_Pl_isTaken_11 : decode b_Pl_isTaken 11 = .ok (.getfield 9, 3) := by decide +kernel
theorem d_Pl_isTaken_14 : decode b_Pl_isTaken 14 = .ok (.iload_n 3, 1) := by decide +kernel
theorem d_Pl_isTaken_15 : decode b_Pl_isTaken 15 = .ok (.iaload, 1) := by decide +kernel
theorem d_Pl_isTaken_16 : decode b_Pl_isTaken 16 = .ok (.iload_n 1, 1) := by decide +kernel
theorem d_Pl_isTaken_17 : decode b_Pl_isTaken 17 = .ok (.if_icmp .ne 15, 3) := by decide +kernel
theorem d_Pl_isTaken_20 : decode b_Pl_isTaken 20 = .ok (.aload_n 0, 1) := by decide +kernel
theorem d_Pl_isTaken_21 : decode b_Pl_isTaken 21 = .ok (.getfield 15, 3) := by decide +kernel
theorem d_Pl_isTaken_24 : decode b_Pl_isTaken 24 = .ok (.iload_n 3, 1) := by decide +kernel
theorem d_Pl_isTaken_25 : decode b_Pl_isTaken 25 = .ok (.iaload, 1) := by decide +kernel
theorem d_Pl_isTaken_26 : decode b_Pl_isTaken 26 = .ok (.iload_n 2, 1) := by decide +kernel
theorem d_Pl_isTaken_27 : decode b_Pl_isTaken 27 = .ok (.if_icmp .ne 5, 3) := by decide +kernel
theorem d_Pl_isTaken_30 : decode b_Pl_isTaken 30 = .ok (.iconst 1, 1) := by decide +kernel
theorem d_Pl_isTaken_31 : decode b_Pl_isTaken 31 = .ok (.ireturn, 1) := by decide +kernel
theorem d_Pl_isTaken_32 : decode b_Pl_isTaken 32 = .ok (.iinc 3 1, 3) := by decide +kernel
theorem d_Pl_isTaken_35 : decode b_Pl_isTaken 35 = .ok (.goto (-33), 3) := by decide +kernel
theorem d_Pl_isTaken_38 : decode b_Pl_isTaken 38 = .ok (.iconst 0, 1) := by decide +kernel
theorem d_Pl_isTaken_39 : decode b_Pl_isTaken 39 = .ok (.ireturn, 1) := by decide +kernel
theorem d_Pl_addVertex_0 : decode b_Pl_addVertex 0 = .ok (.aload_n 0, 1) := by decide +kernel
theorem d_Pl_addVertex_1 : decode b_Pl_addVertex 1 = .ok (.getfield 36, 3) := by decide +kernel
theorem d_Pl_addVertex_4 : decode b_Pl_addVertex 4 = .ok (.bipush 64, 2) := by decide +kernel
theorem d_Pl_addVertex_6 : decode b_Pl_addVertex 6 = .ok (.if_icmp .ge 12, 3) := by decide +kernel
theorem d_Pl_addVertex_9 : decode b_Pl_addVertex 9 = .ok (.aload_n 0, 1) := by decide +kernel
theorem d_Pl_addVertex_10 : decode b_Pl_addVertex 10 = .ok (.iload_n 1, 1) := by decide +kernel
theorem d_Pl_addVertex_11 : decode b_Pl_addVertex 11 = .ok (.iload_n 2, 1) := by decide +kernel
theorem d_Pl_addVertex_12 : decode b_Pl_addVertex 12 = .ok (.invokevirtual 43, 3) := by decide +kernel
theorem d_Pl_addVertex_15 : decode b_Pl_addVertex 15 = .ok (.ifCond .eq 5, 3) := by decide +kernel
theorem d_Pl_addVertex_18 : decode b_Pl_addVertex 18 = .ok (.iconst (-1), 1) := by decide +kernel
theorem d_Pl_addVertex_19 : decode b_Pl_addVertex 19 = .ok (.ireturn, 1) := by decide +kernel
theorem d_Pl_addVertex_20 : decode b_Pl_addVertex 20 = .ok (.aload_n 0, 1) := by decide +kernel
theorem d_Pl_addVertex_21 : decode b_Pl_addVertex 21 = .ok (.getfield 9, 3) := by decide +kernel
theorem d_Pl_addVertex_24 : decode b_Pl_addVertex 24 = .ok (.aload_n 0, 1) := by decide +kernel
theorem d_Pl_addVertex_25 : decode b_Pl_addVertex 25 = .ok (.getfield 36, 3) := by decide +kernel
theorem d_Pl_addVertex_28 : decode b_Pl_addVertex 28 = .ok (.iload_n 1, 1) := by decide +kernel
theorem d_Pl_addVertex_29 : decode b_Pl_addVertex 29 = .ok (.iastore, 1) := by decide +kernel
theorem d_Pl_addVertex_30 : decode b_Pl_addVertex 30 = .ok (.aload_n 0, 1) := by decide +kernel
theorem d_Pl_addVertex_31 : decode b_Pl_addVertex 31 = .ok (.getfield 15, 3) := by decide +kernel
theorem d_Pl_addVertex_34 : decode b_Pl_addVertex 34 = .ok (.aload_n 0, 1) := by decide +kernel
theorem d_Pl_addVertex_35 : decode b_Pl_addVertex 35 = .ok (.getfield 36, 3) := by decide +kernel
theorem d_Pl_addVertex_38 : decode b_Pl_addVertex 38 = .ok (.iload_n 2, 1) := by decide +kernel
theorem d_Pl_addVertex_39 : decode b_Pl_addVertex 39 = .ok (.iastore, 1) := by decide +kernel
theorem d_Pl_addVertex_40 : decode b_Pl_addVertex 40 = .ok (.aload_n 0, 1) := by decide +kernel
theorem d_Pl_addVertex_41 : decode b_Pl_addVertex 41 = .ok (.dup, 1) := by decide +kernel
theorem d_Pl_addVertex_42 : decode b_Pl_addVertex 42 = .ok (.getfield 36, 3) := by decide +kernel
theorem d_Pl_addVertex_45 : decode b_Pl_addVertex 45 = .ok (.dup_x1, 1) := by decide +kernel
theorem d_Pl_addVertex_46 : decode b_Pl_addVertex 46 = .ok (.iconst 1, 1) := by decide +kernel
theorem d_Pl_addVertex_47 : decode b_Pl_addVertex 47 = .ok (.iadd, 1) := by decide +kernel
theorem d_Pl_addVertex_48 : decode b_Pl_addVertex 48 = .ok (.putfield 36, 3) := by decide +kernel
theorem d_Pl_addVertex_51 : decode b_Pl_addVertex 51 = .ok (.ireturn, 1) := by decide +kernel
theorem d_Pl_addSector_0 : decode b_Pl_addSector 0 = .ok (.aload_n 0, 1) := by decide +kernel
theorem d_Pl_addSector_1 : decode b_Pl_addSector 1 = .ok (.getfield 40, 3) := by decide +kernel
theorem d_Pl_addSector_4 : decode b_Pl_addSector 4 = .ok (.bipush 16, 2) := by decide +kernel
theorem d_Pl_addSector_6 : decode b_Pl_addSector 6 = .ok (.if_icmp .lt 5, 3) := by decide +kernel
theorem d_Pl_addSector_9 : decode b_Pl_addSector 9 = .ok (.iconst (-1), 1) := by decide +kernel
theorem d_Pl_addSector_10 : decode b_Pl_addSector 10 = .ok (.ireturn, 1) := by decide +kernel
theorem d_Pl_addSector_11 : decode b_Pl_addSector 11 = .ok (.aload_n 0, 1) := by decide +kernel
theorem d_Pl_addSector_12 : decode b_Pl_addSector 12 = .ok (.getfield 18, 3) := by decide +kernel
theorem d_Pl_addSector_15 : decode b_Pl_addSector 15 = .ok (.aload_n 0, 1) := by decide +kernel
theorem d_Pl_addSector_16 : decode b_Pl_addSector 16 = .ok (.getfield 40, 3) := by decide +kernel
theorem d_Pl_addSector_19 : decode b_Pl_addSector 19 = .ok (.iload_n 1, 1) := by decide +kernel
theorem d_Pl_addSector_20 : decode b_Pl_addSector 20 = .ok (.iastore, 1) := by decide +kernel
theorem d_Pl_addSector_21 : decode b_Pl_addSector 21 = .ok (.aload_n 0, 1) := by decide +kernel
theorem d_Pl_addSector_22 : decode b_Pl_addSector 22 = .ok (.getfield 21, 3) := by decide +kernel
theorem d_Pl_addSector_25 : decode b_Pl_addSector 25 = .ok (.aload_n 0, 1) := by decide +kernel
theorem d_Pl_addSector_26 : decode b_Pl_addSector 26 = .ok (.getfield 40, 3) := by decide +kernel
theorem d_Pl_addSector_29 : decode b_Pl_addSector 29 = .ok (.iload_n 2, 1) := by decide +kernel
theorem d_Pl_addSector_30 : decode b_Pl_addSector 30 = .ok (.iastore, 1) := by decide +kernel
theorem d_Pl_addSector_31 : decode b_Pl_addSector 31 = .ok (.aload_n 0, 1) := by decide +kernel
theorem d_Pl_addSector_32 : decode b_Pl_addSector 32 = .ok (.dup, 1) := by decide +kernel
theorem d_Pl_addSector_33 : decode b_Pl_addSector 33 = .ok (.getfield 40, 3) := by decide +kernel
theorem d_Pl_addSector_36 : decode b_Pl_addSector 36 = .ok (.dup_x1, 1) := by decide +kernel
theorem d_Pl_addSector_37 : decode b_Pl_addSector 37 = .ok (.iconst 1, 1) := by decide +kernel
theorem d_Pl_addSector_38 : decode b_Pl_addSector 38 = .ok (.iadd, 1) := by decide +kernel
theorem d_Pl_addSector_39 : decode b_Pl_addSector 39 = .ok (.putfield 40, 3) := by decide +kernel
theorem d_Pl_addSector_42 : decode b_Pl_addSector 42 = .ok (.ireturn, 1) := by decide +kernel
theorem d_Pl_addWall_0 : decode b_Pl_addWall 0 = .ok (.aload_n 0, 1) := by decide +kernel
theorem d_Pl_addWall_1 : decode b_Pl_addWall 1 = .ok (.getfield 47, 3) := by decide +kernel
theorem d_Pl_addWall_4 : decode b_Pl_addWall 4 = .ok (.bipush 64, 2) := by decide +kernel
theorem d_Pl_addWall_6 : decode b_Pl_addWall 6 = .ok (.if_icmp .lt 5, 3) := by decide +kernel
theorem d_Pl_addWall_9 : decode b_Pl_addWall 9 = .ok (.iconst (-1), 1) := by decide +kernel
theorem d_Pl_addWall_10 : decode b_Pl_addWall 10 = .ok (.ireturn, 1) := by decide +kernel
theorem d_Pl_addWall_11 : decode b_Pl_addWall 11 = .ok (.aload_n 0, 1) := by decide +kernel
theorem d_Pl_addWall_12 : decode b_Pl_addWall 12 = .ok (.getfield 24, 3) := by decide +kernel
theorem d_Pl_addWall_15 : decode b_Pl_addWall 15 = .ok (.aload_n 0, 1) := by decide +kernel
theorem d_Pl_addWall_16 : decode b_Pl_addWall 16 = .ok (.getfield 47, 3) := by decide +kernel
theorem d_Pl_addWall_19 : decode b_Pl_addWall 19 = .ok (.iload_n 1, 1) := by decide +kernel
theorem d_Pl_addWall_20 : decode b_Pl_addWall 20 = .ok (.iastore, 1) := by decide +kernel
theorem d_Pl_addWall_21 : decode b_Pl_addWall 21 = .ok (.aload_n 0, 1) := by decide +kernel
theorem d_Pl_addWall_22 : decode b_Pl_addWall 22 = .ok (.getfield 27, 3) := by decide +kernel
theorem d_Pl_addWall_25 : decode b_Pl_addWall 25 = .ok (.aload_n 0, 1) := by decide +kernel
theorem d_Pl_addWall_26 : decode b_Pl_addWall 26 = .ok (.getfield 47, 3) := by decide +kernel
theorem d_Pl_addWall_29 : decode b_Pl_addWall 29 = .ok (.iload_n 2, 1) := by decide +kernel
theorem d_Pl_addWall_30 : decode b_Pl_addWall 30 = .ok (.iastore, 1) := by decide +kernel
theorem d_Pl_addWall_31 : decode b_Pl_addWall 31 = .ok (.aload_n 0, 1) := by decide +kernel
theorem d_Pl_addWall_32 : decode b_Pl_addWall 32 = .ok (.getfield 30, 3) := by decide +kernel
theorem d_Pl_addWall_35 : decode b_Pl_addWall 35 = .ok (.aload_n 0, 1) := by decide +kernel
theorem d_Pl_addWall_36 : decode b_Pl_addWall 36 = .ok (.getfield 47, 3) := by decide +kernel
theorem d_Pl_addWall_39 : decode b_Pl_addWall 39 = .ok (.iload_n 3, 1) := by decide +kernel
theorem d_Pl_addWall_40 : decode b_Pl_addWall 40 = .ok (.iastore, 1) := by decide +kernel
theorem d_Pl_addWall_41 : decode b_Pl_addWall 41 = .ok (.aload_n 0, 1) := by decide +kernel
theorem d_Pl_addWall_42 : decode b_Pl_addWall 42 = .ok (.getfield 33, 3) := by decide +kernel
theorem d_Pl_addWall_45 : decode b_Pl_addWall 45 = .ok (.aload_n 0, 1) := by decide +kernel
theorem d_Pl_addWall_46 : decode b_Pl_addWall 46 = .ok (.getfield 47, 3) := by decide +kernel
theorem d_Pl_addWall_49 : decode b_Pl_addWall 49 = .ok (.iload 4, 2) := by decide +kernel
theorem d_Pl_addWall_51 : decode b_Pl_addWall 51 = .ok (.iastore, 1) := by decide +kernel
theorem d_Pl_addWall_52 : decode b_Pl_addWall 52 = .ok (.aload_n 0, 1) := by decide +kernel
theorem d_Pl_addWall_53 : decode b_Pl_addWall 53 = .ok (.dup, 1) := by decide +kernel
theorem d_Pl_addWall_54 : decode b_Pl_addWall 54 = .ok (.getfield 47, 3) := by decide +kernel
theorem d_Pl_addWall_57 : decode b_Pl_addWall 57 = .ok (.dup_x1, 1) := by decide +kernel
theorem d_Pl_addWall_58 : decode b_Pl_addWall 58 = .ok (.iconst 1, 1) := by decide +kernel
theorem d_Pl_addWall_59 : decode b_Pl_addWall 59 = .ok (.iadd, 1) := by decide +kernel
theorem d_Pl_addWall_60 : decode b_Pl_addWall 60 = .ok (.putfield 47, 3) := by decide +kernel
theorem d_Pl_addWall_63 : decode b_Pl_addWall 63 = .ok (.ireturn, 1) := by decide +kernel
theorem d_Pl_removeLastWall_0 : decode b_Pl_removeLastWall 0 = .ok (.aload_n 0, 1) := by decide +kernel
theorem d_Pl_removeLastWall_1 : decode b_Pl_removeLastWall 1 = .ok (.getfield 47, 3) := by decide +kernel
theorem d_Pl_removeLastWall_4 : decode b_Pl_removeLastWall 4 = .ok (.ifCond .ne 5, 3) := by decide +kernel
theorem d_Pl_removeLastWall_7 : decode b_Pl_removeLastWall 7 = .ok (.iconst 0, 1) := by decide +kernel
theorem d_Pl_removeLastWall_8 : decode b_Pl_removeLastWall 8 = .ok (.ireturn, 1) := by decide +kernel
theorem d_Pl_removeLastWall_9 : decode b_Pl_removeLastWall 9 = .ok (.aload_n 0, 1) := by decide +kernel
theorem d_Pl_removeLastWall_10 : decode b_Pl_removeLastWall 10 = .ok (.dup, 1) := by decide +kernel
theorem d_Pl_removeLastWall_11 : decode b_Pl_removeLastWall 11 = .ok (.getfield 47, 3) := by decide +kernel
theorem d_Pl_removeLastWall_14 : decode b_Pl_removeLastWall 14 = .ok (.iconst 1, 1) := by decide +kernel
theorem d_Pl_removeLastWall_15 : decode b_Pl_removeLastWall 15 = .ok (.isub, 1) := by decide +kernel
theorem d_Pl_removeLastWall_16 : decode b_Pl_removeLastWall 16 = .ok (.putfield 47, 3) := by decide +kernel
theorem d_Pl_removeLastWall_19 : decode b_Pl_removeLastWall 19 = .ok (.iconst 1, 1) := by decide +kernel
theorem d_Pl_removeLastWall_20 : decode b_Pl_removeLastWall 20 = .ok (.ireturn, 1) := by decide +kernel
theorem d_Pl_makeEmpty_0 : decode b_Pl_makeEmpty 0 = .ok (.aload_n 0, 1) := by decide +kernel
theorem d_Pl_makeEmpty_1 : decode b_Pl_makeEmpty 1 = .ok (.iconst 0, 1) := by decide +kernel
theorem d_Pl_makeEmpty_2 : decode b_Pl_makeEmpty 2 = .ok (.putfield 36, 3) := by decide +kernel
theorem d_Pl_makeEmpty_5 : decode b_Pl_makeEmpty 5 = .ok (.aload_n 0, 1) := by decide +kernel
theorem d_Pl_makeEmpty_6 : decode b_Pl_makeEmpty 6 = .ok (.iconst 0, 1) := by decide +kernel
theorem d_Pl_makeEmpty_7 : decode b_Pl_makeEmpty 7 = .ok (.putfield 40, 3) := by decide +kernel
theorem d_Pl_makeEmpty_10 : decode b_Pl_makeEmpty 10 = .ok (.aload_n 0, 1) := by decide +kernel
theorem d_Pl_makeEmpty_11 : decode b_Pl_makeEmpty 11 = .ok (.iconst 0, 1) := by decide +kernel
theorem d_Pl_makeEmpty_12 : decode b_Pl_makeEmpty 12 = .ok (.putfield 47, 3) := by decide +kernel
theorem d_Pl_makeEmpty_15 : decode b_Pl_makeEmpty 15 = .ok (.return_, 1) := by decide +kernel
theorem d_Pl_becomeCopyOf_0 : decode b_Pl_becomeCopyOf 0 = .ok (.aload_n 1, 1) := by decide +kernel
theorem d_Pl_becomeCopyOf_1 : decode b_Pl_becomeCopyOf 1 = .ok (.getfield 9, 3) := by decide +kernel
theorem d_Pl_becomeCopyOf_4 : decode b_Pl_becomeCopyOf 4 = .ok (.iconst 0, 1) := by decide +kernel
theorem d_Pl_becomeCopyOf_5 : decode b_Pl_becomeCopyOf 5 = .ok (.aload_n 0, 1) := by decide +kernel
theorem d_Pl_becomeCopyOf_6 : decode b_Pl_becomeCopyOf 6 = .ok (.getfield 9, 3) := by decide +kernel
theorem d_Pl_becomeCopyOf_9 : decode b_Pl_becomeCopyOf 9 = .ok (.iconst 0, 1) := by decide +kernel
theorem d_Pl_becomeCopyOf_10 : decode b_Pl_becomeCopyOf 10 = .ok (.bipush 64, 2) := by decide +kernel
theorem d_Pl_becomeCopyOf_12 : decode b_Pl_becomeCopyOf 12 = .ok (.invokestatic 50, 3) := by decide +kernel
theorem d_Pl_becomeCopyOf_15 : decode b_Pl_becomeCopyOf 15 = .ok (.aload_n 1, 1) := by decide +kernel
theorem d_Pl_becomeCopyOf_16 : decode b_Pl_becomeCopyOf 16 = .ok (.getfield 15, 3) := by decide +kernel
theorem d_Pl_becomeCopyOf_19 : decode b_Pl_becomeCopyOf 19 = .ok (.iconst 0, 1) := by decide +kernel
theorem d_Pl_becomeCopyOf_20 : decode b_Pl_becomeCopyOf 20 = .ok (.aload_n 0, 1) := by decide +kernel
theorem d_Pl_becomeCopyOf_21 : decode b_Pl_becomeCopyOf 21 = .ok (.getfield 15, 3) := by decide +kernel
theorem d_Pl_becomeCopyOf_24 : decode b_Pl_becomeCopyOf 24 = .ok (.iconst 0, 1) := by decide +kernel
theorem d_Pl_becomeCopyOf_25 : decode b_Pl_becomeCopyOf 25 = .ok (.bipush 64, 2) := by decide +kernel
theorem d_Pl_becomeCopyOf_27 : decode b_Pl_becomeCopyOf 27 = .ok (.invokestatic 50, 3) := by decide +kernel
theorem d_Pl_becomeCopyOf_30 : decode b_Pl_becomeCopyOf 30 = .ok (.aload_n 1, 1) := by decide +kernel
theorem d_Pl_becomeCopyOf_31 : decode b_Pl_becomeCopyOf 31 = .ok (.getfield 18, 3) := by decide +kernel
theorem d_Pl_becomeCopyOf_34 : decode b_Pl_becomeCopyOf 34 = .ok (.iconst 0, 1) := by decide +kernel
theorem d_Pl_becomeCopyOf_35 : decode b_Pl_becomeCopyOf 35 = .ok (.aload_n 0, 1) := by decide +kernel
theorem d_Pl_becomeCopyOf_36 : decode b_Pl_becomeCopyOf 36 = .ok (.getfield 18, 3) := by decide +kernel
theorem d_Pl_becomeCopyOf_39 : decode b_Pl_becomeCopyOf 39 = .ok (.iconst 0, 1) := by decide +kernel
theorem d_Pl_becomeCopyOf_40 : decode b_Pl_becomeCopyOf 40 = .ok (.bipush 16, 2) := by decide +kernel
theorem d_Pl_becomeCopyOf_42 : decode b_Pl_becomeCopyOf 42 = .ok (.invokestatic 50, 3) := by decide +kernel
theorem d_Pl_becomeCopyOf_45 : decode b_Pl_becomeCopyOf 45 = .ok (.aload_n 1, 1) := by decide +kernel
theorem d_Pl_becomeCopyOf_46 : decode b_Pl_becomeCopyOf 46 = .ok (.getfield 21, 3) := by decide +kernel
theorem d_Pl_becomeCopyOf_49 : decode b_Pl_becomeCopyOf 49 = .ok (.iconst 0, 1) := by decide +kernel
theorem d_Pl_becomeCopyOf_50 : decode b_Pl_becomeCopyOf 50 = .ok (.aload_n 0, 1) := by decide +kernel
theorem d_Pl_becomeCopyOf_51 : decode b_Pl_becomeCopyOf 51 = .ok (.getfield 21, 3) := by decide +kernel
theorem d_Pl_becomeCopyOf_54 : decode b_Pl_becomeCopyOf 54 = .ok (.iconst 0, 1) := by decide +kernel
theorem d_Pl_becomeCopyOf_55 : decode b_Pl_becomeCopyOf 55 = .ok (.bipush 16, 2) := by decide +kernel
theorem d_Pl_becomeCopyOf_57 : decode b_Pl_becomeCopyOf 57 = .ok (.invokestatic 50, 3) := by decide +kernel
theorem d_Pl_becomeCopyOf_60 : decode b_Pl_becomeCopyOf 60 = .ok (.aload_n 1, 1) := by decide +kernel
theorem d_Pl_becomeCopyOf_61 : decode b_Pl_becomeCopyOf 61 = .ok (.getfield 24, 3) := by decide +kernel
theorem d_Pl_becomeCopyOf_64 : decode b_Pl_becomeCopyOf 64 = .ok (.iconst 0, 1) := by decide +kernel
theorem d_Pl_becomeCopyOf_65 : decode b_Pl_becomeCopyOf 65 = .ok (.aload_n 0, 1) := by decide +kernel
theorem d_Pl_becomeCopyOf_66 : decode b_Pl_becomeCopyOf 66 = .ok (.getfield 24, 3) := by decide +kernel
theorem d_Pl_becomeCopyOf_69 : decode b_Pl_becomeCopyOf 69 = .ok (.iconst 0, 1) := by decide +kernel
theorem d_Pl_becomeCopyOf_70 : decode b_Pl_becomeCopyOf 70 = .ok (.bipush 64, 2) := by decide +kernel
theorem d_Pl_becomeCopyOf_72 : decode b_Pl_becomeCopyOf 72 = .ok (.invokestatic 50, 3) := by decide +kernel
theorem d_Pl_becomeCopyOf_75 : decode b_Pl_becomeCopyOf 75 = .ok (.aload_n 1, 1) := by decide +kernel
theorem d_Pl_becomeCopyOf_76 : decode b_Pl_becomeCopyOf 76 = .ok (.getfield 27, 3) := by decide +kernel
theorem d_Pl_becomeCopyOf_79 : decode b_Pl_becomeCopyOf 79 = .ok (.iconst 0, 1) := by decide +kernel
theorem d_Pl_becomeCopyOf_80 : decode b_Pl_becomeCopyOf 80 = .ok (.aload_n 0, 1) := by decide +kernel
theorem d_Pl_becomeCopyOf_81 : decode b_Pl_becomeCopyOf 81 = .ok (.getfield 27, 3) := by decide +kernel
theorem d_Pl_becomeCopyOf_84 : decode b_Pl_becomeCopyOf 84 = .ok (.iconst 0, 1) := by decide +kernel
theorem d_Pl_becomeCopyOf_85 : decode b_Pl_becomeCopyOf 85 = .ok (.bipush 64, 2) := by decide +kernel
theorem d_Pl_becomeCopyOf_87 : decode b_Pl_becomeCopyOf 87 = .ok (.invokestatic 50, 3) := by decide +kernel
theorem d_Pl_becomeCopyOf_90 : decode b_Pl_becomeCopyOf 90 = .ok (.aload_n 1, 1) := by decide +kernel
theorem d_Pl_becomeCopyOf_91 : decode b_Pl_becomeCopyOf 91 = .ok (.getfield 30, 3) := by decide +kernel
theorem d_Pl_becomeCopyOf_94 : decode b_Pl_becomeCopyOf 94 = .ok (.iconst 0, 1) := by decide +kernel
theorem d_Pl_becomeCopyOf_95 : decode b_Pl_becomeCopyOf 95 = .ok (.aload_n 0, 1) := by decide +kernel
theorem d_Pl_becomeCopyOf_96 : decode b_Pl_becomeCopyOf 96 = .ok (.getfield 30, 3) := by decide +kernel
theorem d_Pl_becomeCopyOf_99 : decode b_Pl_becomeCopyOf 99 = .ok (.iconst 0, 1) := by decide +kernel
theorem d_Pl_becomeCopyOf_100 : decode b_Pl_becomeCopyOf 100 = .ok (.bipush 64, 2) := by decide +kernel
theorem d_Pl_becomeCopyOf_102 : decode b_Pl_becomeCopyOf 102 = .ok (.invokestatic 50, 3) := by decide +kernel
theorem d_Pl_becomeCopyOf_105 : decode b_Pl_becomeCopyOf 105 = .ok (.aload_n 1, 1) := by decide +kernel
theorem d_Pl_becomeCopyOf_106 : decode b_Pl_becomeCopyOf 106 = .ok (.getfield 33, 3) := by decide +kernel
theorem d_Pl_becomeCopyOf_109 : decode b_Pl_becomeCopyOf 109 = .ok (.iconst 0, 1) := by decide +kernel
theorem d_Pl_becomeCopyOf_110 : decode b_Pl_becomeCopyOf 110 = .ok (.aload_n 0, 1) := by decide +kernel
theorem d_Pl_becomeCopyOf_111 : decode b_Pl_becomeCopyOf 111 = .ok (.getfield 33, 3) := by decide +kernel
theorem d_Pl_becomeCopyOf_114 : decode b_Pl_becomeCopyOf 114 = .ok (.iconst 0, 1) := by decide +kernel
theorem d_Pl_becomeCopyOf_115 : decode b_Pl_becomeCopyOf 115 = .ok (.bipush 64, 2) := by decide +kernel
theorem d_Pl_becomeCopyOf_117 : decode b_Pl_becomeCopyOf 117 = .ok (.invokestatic 50, 3) := by decide +kernel
theorem d_Pl_becomeCopyOf_120 : decode b_Pl_becomeCopyOf 120 = .ok (.aload_n 0, 1) := by decide +kernel
theorem d_Pl_becomeCopyOf_121 : decode b_Pl_becomeCopyOf 121 = .ok (.aload_n 1, 1) := by decide +kernel
theorem d_Pl_becomeCopyOf_122 : decode b_Pl_becomeCopyOf 122 = .ok (.getfield 36, 3) := by decide +kernel
theorem d_Pl_becomeCopyOf_125 : decode b_Pl_becomeCopyOf 125 = .ok (.putfield 36, 3) := by decide +kernel
theorem d_Pl_becomeCopyOf_128 : decode b_Pl_becomeCopyOf 128 = .ok (.aload_n 0, 1) := by decide +kernel
theorem d_Pl_becomeCopyOf_129 : decode b_Pl_becomeCopyOf 129 = .ok (.aload_n 1, 1) := by decide +kernel
theorem d_Pl_becomeCopyOf_130 : decode b_Pl_becomeCopyOf 130 = .ok (.getfield 40, 3) := by decide +kernel
theorem d_Pl_becomeCopyOf_133 : decode b_Pl_becomeCopyOf 133 = .ok (.putfield 40, 3) := by decide +kernel
theorem d_Pl_becomeCopyOf_136 : decode b_Pl_becomeCopyOf 136 = .ok (.aload_n 0, 1) := by decide +kernel
theorem d_Pl_becomeCopyOf_137 : decode b_Pl_becomeCopyOf 137 = .ok (.aload_n 1, 1) := by decide +kernel
theorem d_Pl_becomeCopyOf_138 : decode b_Pl_becomeCopyOf 138 = .ok (.getfield 47, 3) := by decide +kernel
theorem d_Pl_becomeCopyOf_141 : decode b_Pl_becomeCopyOf 141 = .ok (.putfield 47, 3) := by decide +kernel
theorem d_Pl_becomeCopyOf_144 : decode b_Pl_becomeCopyOf 144 = .ok (.return_, 1) := by decide +kernel
theorem d_Ta_append_0 : decode b_Ta_append 0 = .ok (.aload_n 0, 1) := by decide +kernel
theorem d_Ta_append_1 : decode b_Ta_append 1 = .ok (.getfield 21, 3) := by decide +kernel
theorem d_Ta_append_4 : decode b_Ta_append 4 = .ok (.sipush 256, 3) := by decide +kernel
theorem d_Ta_append_7 : decode b_Ta_append 7 = .ok (.if_icmp .lt 5, 3) := by decide +kernel
theorem d_Ta_append_10 : decode b_Ta_append 10 = .ok (.iconst (-1), 1) := by decide +kernel
theorem d_Ta_append_11 : decode b_Ta_append 11 = .ok (.ireturn, 1) := by decide +kernel
theorem d_Ta_append_12 : decode b_Ta_append 12 = .ok (.aload_n 0, 1) := by decide +kernel
theorem d_Ta_append_13 : decode b_Ta_append 13 = .ok (.getfield 9, 3) := by decide +kernel
theorem d_Ta_append_16 : decode b_Ta_append 16 = .ok (.aload_n 0, 1) := by decide +kernel
theorem d_Ta_append_17 : decode b_Ta_append 17 = .ok (.getfield 21, 3) := by decide +kernel
theorem d_Ta_append_20 : decode b_Ta_append 20 = .ok (.iload_n 1, 1) := by decide +kernel
theorem d_Ta_append_21 : decode b_Ta_append 21 = .ok (.iastore, 1) := by decide +kernel
theorem d_Ta_append_22 : decode b_Ta_append 22 = .ok (.aload_n 0, 1) := by decide +kernel
theorem d_Ta_append_23 : decode b_Ta_append 23 = .ok (.getfield 15, 3) := by decide +kernel
theorem d_Ta_append_26 : decode b_Ta_append 26 = .ok (.aload_n 0, 1) := by decide +kernel
theorem d_Ta_append_27 : decode b_Ta_append 27 = .ok (.getfield 21, 3) := by decide +kernel
theorem d_Ta_append_30 : decode b_Ta_append 30 = .ok (.iload_n 2, 1) := by decide +kernel
theorem d_Ta_append_31 : decode b_Ta_append 31 = .ok (.iastore, 1) := by decide +kernel
theorem d_Ta_append_32 : decode b_Ta_append 32 = .ok (.aload_n 0, 1) := by decide +kernel
theorem d_Ta_append_33 : decode b_Ta_append 33 = .ok (.getfield 18, 3) := by decide +kernel
theorem d_Ta_append_36 : decode b_Ta_append 36 = .ok (.aload_n 0, 1) := by decide +kernel
theorem d_Ta_append_37 : decode b_Ta_append 37 = .ok (.getfield 21, 3) := by decide +kernel
theorem d_Ta_append_40 : decode b_Ta_append 40 = .ok (.iload_n 3, 1) := by decide +kernel
theorem d_Ta_append_41 : decode b_Ta_append 41 = .ok (.iastore, 1) := by decide +kernel
theorem d_Ta_append_42 : decode b_Ta_append 42 = .ok (.aload_n 0, 1) := by decide +kernel
theorem d_Ta_append_43 : decode b_Ta_append 43 = .ok (.dup, 1) := by decide +kernel
theorem d_Ta_append_44 : decode b_Ta_append 44 = .ok (.getfield 21, 3) := by decide +kernel
theorem d_Ta_append_47 : decode b_Ta_append 47 = .ok (.iconst 1, 1) := by decide +kernel
theorem d_Ta_append_48 : decode b_Ta_append 48 = .ok (.iadd, 1) := by decide +kernel
theorem d_Ta_append_49 : decode b_Ta_append 49 = .ok (.putfield 21, 3) := by decide +kernel
theorem d_Ta_append_52 : decode b_Ta_append 52 = .ok (.aload_n 0, 1) := by decide +kernel
theorem d_Ta_append_53 : decode b_Ta_append 53 = .ok (.getfield 21, 3) := by decide +kernel
theorem d_Ta_append_56 : decode b_Ta_append 56 = .ok (.ireturn, 1) := by decide +kernel
theorem d_Ta_removeLast_0 : decode b_Ta_removeLast 0 = .ok (.iload_n 1, 1) := by decide +kernel
theorem d_Ta_removeLast_1 : decode b_Ta_removeLast 1 = .ok (.ifCond .lt 11, 3) := by decide +kernel
theorem d_Ta_removeLast_4 : decode b_Ta_removeLast 4 = .ok (.iload_n 1, 1) := by decide +kernel
theorem d_Ta_removeLast_5 : decode b_Ta_removeLast 5 = .ok (.aload_n 0, 1) := by decide +kernel
theorem d_Ta_removeLast_6 : decode b_Ta_removeLast 6 = .ok (.getfield 21, 3) := by decide +kernel
theorem d_Ta_removeLast_9 : decode b_Ta_removeLast 9 = .ok (.if_icmp .le 5, 3) := by decide +kernel
theorem d_Ta_removeLast_12 : decode b_Ta_removeLast 12 = .ok (.iconst 0, 1) := by decide +kernel
theorem d_Ta_removeLast_13 : decode b_Ta_removeLast 13 = .ok (.ireturn, 1) := by decide +kernel
theorem d_Ta_removeLast_14 : decode b_Ta_removeLast 14 = .ok (.aload_n 0, 1) := by decide +kernel
theorem d_Ta_removeLast_15 : decode b_Ta_removeLast 15 = .ok (.dup, 1) := by decide +kernel
theorem d_Ta_removeLast_16 : decode b_Ta_removeLast 16 = .ok (.getfield 21, 3) := by decide +kernel
theorem d_Ta_removeLast_19 : decode b_Ta_removeLast 19 = .ok (.iload_n 1, 1) := by decide +kernel
theorem d_Ta_removeLast_20 : decode b_Ta_removeLast 20 = .ok (.isub, 1) := by decide +kernel
theorem d_Ta_removeLast_21 : decode b_Ta_removeLast 21 = .ok (.putfield 21, 3) := by decide +kernel
theorem d_Ta_removeLast_24 : decode b_Ta_removeLast 24 = .ok (.iconst 1, 1) := by decide +kernel
theorem d_Ta_removeLast_25 : decode b_Ta_removeLast 25 = .ok (.ireturn, 1) := by decide +kernel
theorem d_St_becomeCopyOf_0 : decode b_St_becomeCopyOf 0 = .ok (.aload_n 0, 1) := by decide +kernel
theorem d_St_becomeCopyOf_1 : decode b_St_becomeCopyOf 1 = .ok (.aload_n 1, 1) := by decide +kernel
theorem d_St_becomeCopyOf_2 : decode b_St_becomeCopyOf 2 = .ok (.getfield 7, 3) := by decide +kernel
theorem d_St_becomeCopyOf_5 : decode b_St_becomeCopyOf 5 = .ok (.putfield 7, 3) := by decide +kernel
theorem d_St_becomeCopyOf_8 : decode b_St_becomeCopyOf 8 = .ok (.aload_n 0, 1) := by decide +kernel
theorem d_St_becomeCopyOf_9 : decode b_St_becomeCopyOf 9 = .ok (.aload_n 1, 1) := by decide +kernel
theorem d_St_becomeCopyOf_10 : decode b_St_becomeCopyOf 10 = .ok (.getfield 13, 3) := by decide +kernel
theorem d_St_becomeCopyOf_13 : decode b_St_becomeCopyOf 13 = .ok (.putfield 13, 3) := by decide +kernel
theorem d_St_becomeCopyOf_16 : decode b_St_becomeCopyOf 16 = .ok (.aload_n 0, 1) := by decide +kernel
theorem d_St_becomeCopyOf_17 : decode b_St_becomeCopyOf 17 = .ok (.aload_n 1, 1) := by decide +kernel
theorem d_St_becomeCopyOf_18 : decode b_St_becomeCopyOf 18 = .ok (.getfield 16, 3) := by decide +kernel
theorem d_St_becomeCopyOf_21 : decode b_St_becomeCopyOf 21 = .ok (.putfield 16, 3) := by decide +kernel
theorem d_St_becomeCopyOf_24 : decode b_St_becomeCopyOf 24 = .ok (.aload_n 0, 1) := by decide +kernel
theorem d_St_becomeCopyOf_25 : decode b_St_becomeCopyOf 25 = .ok (.aload_n 1, 1) := by decide +kernel
theorem d_St_becomeCopyOf_26 : decode b_St_becomeCopyOf 26 = .ok (.getfield 19, 3) := by decide +kernel
theorem d_St_becomeCopyOf_29 : decode b_St_becomeCopyOf 29 = .ok (.putfield 19, 3) := by decide +kernel
theorem d_St_becomeCopyOf_32 : decode b_St_becomeCopyOf 32 = .ok (.return_, 1) := by decide +kernel
theorem d_Cr_forget_0 : decode b_Cr_forget 0 = .ok (.aload_n 0, 1) := by decide +kernel
theorem d_Cr_forget_1 : decode b_Cr_forget 1 = .ok (.iconst 0, 1) := by decide +kernel
theorem d_Cr_forget_2 : decode b_Cr_forget 2 = .ok (.putfield 21, 3) := by decide +kernel
theorem d_Cr_forget_5 : decode b_Cr_forget 5 = .ok (.aload_n 0, 1) := by decide +kernel
theorem d_Cr_forget_6 : decode b_Cr_forget 6 = .ok (.iconst (-1), 1) := by decide +kernel
theorem d_Cr_forget_7 : decode b_Cr_forget 7 = .ok (.putfield 25, 3) := by decide +kernel
theorem d_Cr_forget_10 : decode b_Cr_forget 10 = .ok (.return_, 1) := by decide +kernel
theorem d_Pl_side_0 : decode b_Pl_side 0 = .ok (.aload_n 0, 1) := by decide +kernel
theorem d_Pl_side_1 : decode b_Pl_side 1 = .ok (.getfield 9, 3) := by decide +kernel
theorem d_Pl_side_4 : decode b_Pl_side 4 = .ok (.iload_n 2, 1) := by decide +kernel
theorem d_Pl_side_5 : decode b_Pl_side 5 = .ok (.iaload, 1) := by decide +kernel
theorem d_Pl_side_6 : decode b_Pl_side 6 = .ok (.aload_n 0, 1) := by decide +kernel
theorem d_Pl_side_7 : decode b_Pl_side 7 = .ok (.getfield 9, 3) := by decide +kernel
theorem d_Pl_side_10 : decode b_Pl_side 10 = .ok (.iload_n 1, 1) := by decide +kernel
theorem d_Pl_side_11 : decode b_Pl_side 11 = .ok (.iaload, 1) := by decide +kernel
theorem d_Pl_side_12 : decode b_Pl_side 12 = .ok (.isub, 1) := by decide +kernel
theorem d_Pl_side_13 : decode b_Pl_side 13 = .ok (.aload_n 0, 1) := by decide +kernel
theorem d_Pl_side_14 : decode b_Pl_side 14 = .ok (.getfield 15, 3) := by decide +kernel
theorem d_Pl_side_17 : decode b_Pl_side 17 = .ok (.iload_n 2, 1) := by decide +kernel
theorem d_Pl_side_18 : decode b_Pl_side 18 = .ok (.iaload, 1) := by decide +kernel
theorem d_Pl_side_19 : decode b_Pl_side 19 = .ok (.aload_n 0, 1) := by decide +kernel
theorem d_Pl_side_20 : decode b_Pl_side 20 = .ok (.getfield 15, 3) := by decide +kernel
theorem d_Pl_side_23 : decode b_Pl_side 23 = .ok (.iload_n 1, 1) := by decide +kernel
theorem d_Pl_side_24 : decode b_Pl_side 24 = .ok (.iaload, 1) := by decide +kernel
theorem d_Pl_side_25 : decode b_Pl_side 25 = .ok (.isub, 1) := by decide +kernel
theorem d_Pl_side_26 : decode b_Pl_side 26 = .ok (.aload_n 0, 1) := by decide +kernel
theorem d_Pl_side_27 : decode b_Pl_side 27 = .ok (.getfield 9, 3) := by decide +kernel
theorem d_Pl_side_30 : decode b_Pl_side 30 = .ok (.iload_n 3, 1) := by decide +kernel
theorem d_Pl_side_31 : decode b_Pl_side 31 = .ok (.iaload, 1) := by decide +kernel
theorem d_Pl_side_32 : decode b_Pl_side 32 = .ok (.aload_n 0, 1) := by decide +kernel
theorem d_Pl_side_33 : decode b_Pl_side 33 = .ok (.getfield 9, 3) := by decide +kernel
theorem d_Pl_side_36 : decode b_Pl_side 36 = .ok (.iload_n 1, 1) := by decide +kernel
theorem d_Pl_side_37 : decode b_Pl_side 37 = .ok (.iaload, 1) := by decide +kernel
theorem d_Pl_side_38 : decode b_Pl_side 38 = .ok (.isub, 1) := by decide +kernel
theorem d_Pl_side_39 : decode b_Pl_side 39 = .ok (.aload_n 0, 1) := by decide +kernel
theorem d_Pl_side_40 : decode b_Pl_side 40 = .ok (.getfield 15, 3) := by decide +kernel
theorem d_Pl_side_43 : decode b_Pl_side 43 = .ok (.iload_n 3, 1) := by decide +kernel
theorem d_Pl_side_44 : decode b_Pl_side 44 = .ok (.iaload, 1) := by decide +kernel
theorem d_Pl_side_45 : decode b_Pl_side 45 = .ok (.aload_n 0, 1) := by decide +kernel
theorem d_Pl_side_46 : decode b_Pl_side 46 = .ok (.getfield 15, 3) := by decide +kernel
theorem d_Pl_side_49 : decode b_Pl_side 49 = .ok (.iload_n 1, 1) := by decide +kernel
theorem d_Pl_side_50 : decode b_Pl_side 50 = .ok (.iaload, 1) := by decide +kernel
theorem d_Pl_side_51 : decode b_Pl_side 51 = .ok (.isub, 1) := by decide +kernel
theorem d_Pl_side_52 : decode b_Pl_side 52 = .ok (.invokestatic 71, 3) := by decide +kernel
theorem d_Pl_side_55 : decode b_Pl_side 55 = .ok (.ireturn, 1) := by decide +kernel
theorem d_Pl_straddles_0 : decode b_Pl_straddles 0 = .ok (.aload_n 0, 1) := by decide +kernel
theorem d_Pl_straddles_1 : decode b_Pl_straddles 1 = .ok (.iload_n 1, 1) := by decide +kernel
theorem d_Pl_straddles_2 : decode b_Pl_straddles 2 = .ok (.iload_n 2, 1) := by decide +kernel
theorem d_Pl_straddles_3 : decode b_Pl_straddles 3 = .ok (.iload_n 3, 1) := by decide +kernel
theorem d_Pl_straddles_4 : decode b_Pl_straddles 4 = .ok (.invokevirtual 84, 3) := by decide +kernel
theorem d_Pl_straddles_7 : decode b_Pl_straddles 7 = .ok (.istore 5, 2) := by decide +kernel
theorem d_Pl_straddles_9 : decode b_Pl_straddles 9 = .ok (.aload_n 0, 1) := by decide +kernel
theorem d_Pl_straddles_10 : decode b_Pl_straddles 10 = .ok (.iload_n 1, 1) := by decide +kernel
theorem d_Pl_straddles_11 : decode b_Pl_straddles 11 = .ok (.iload_n 2, 1) := by decide +kernel
theorem d_Pl_straddles_12 : decode b_Pl_straddles 12 = .ok (.iload 4, 2) := by decide +kernel
theorem d_Pl_straddles_14 : decode b_Pl_straddles 14 = .ok (.invokevirtual 84, 3) := by decide +kernel
theorem d_Pl_straddles_17 : decode b_Pl_straddles 17 = .ok (.istore 6, 2) := by decide +kernel
theorem d_Pl_straddles_19 : decode b_Pl_straddles 19 = .ok (.iload 5, 2) := by decide +kernel
theorem d_Pl_straddles_21 : decode b_Pl_straddles 21 = .ok (.ifCond .le 8, 3) := by decide +kernel
theorem d_Pl_straddles_24 : decode b_Pl_straddles 24 = .ok (.iload 6, 2) := by decide +kernel
theorem d_Pl_straddles_26 : decode b_Pl_straddles 26 = .ok (.ifCond .gt 17, 3) := by decide +kernel
theorem d_Pl_straddles_29 : decode b_Pl_straddles 29 = .ok (.iload 5, 2) := by decide +kernel
theorem d_Pl_straddles_31 : decode b_Pl_straddles 31 = .ok (.ifCond .ge 8, 3) := by decide +kernel
theorem d_Pl_straddles_34 : decode b_Pl_straddles 34 = .ok (.iload 6, 2) := by decide +kernel
theorem d_Pl_straddles_36 : decode b_Pl_straddles 36 = .ok (.ifCond .lt 7, 3) := by decide +kernel
theorem d_Pl_straddles_39 : decode b_Pl_straddles 39 = .ok (.iconst 1, 1) := by decide +kernel
theorem d_Pl_straddles_40 : decode b_Pl_straddles 40 = .ok (.goto 4, 3) := by decide +kernel
theorem d_Pl_straddles_43 : decode b_Pl_straddles 43 = .ok (.iconst 0, 1) := by decide +kernel
theorem d_Pl_straddles_44 : decode b_Pl_straddles 44 = .ok (.ireturn, 1) := by decide +kernel
theorem d_Pl_leaveAlike_0 : decode b_Pl_leaveAlike 0 = .ok (.aload_n 0, 1) := by decide +kernel
theorem d_Pl_leaveAlike_1 : decode b_Pl_leaveAlike 1 = .ok (.getfield 9, 3) := by decide +kernel
theorem d_Pl_leaveAlike_4 : decode b_Pl_leaveAlike 4 = .ok (.iload_n 2, 1) := by decide +kernel
theorem d_Pl_leaveAlike_5 : decode b_Pl_leaveAlike 5 = .ok (.iaload, 1) := by decide +kernel
theorem d_Pl_leaveAlike_6 : decode b_Pl_leaveAlike 6 = .ok (.aload_n 0, 1) := by decide +kernel
theorem d_Pl_leaveAlike_7 : decode b_Pl_leaveAlike 7 = .ok (.getfield 9, 3) := by decide +kernel
theorem d_Pl_leaveAlike_10 : decode b_Pl_leaveAlike 10 = .ok (.iload_n 1, 1) := by decide +kernel
theorem d_Pl_leaveAlike_11 : decode b_Pl_leaveAlike 11 = .ok (.iaload, 1) := by decide +kernel
theorem d_Pl_leaveAlike_12 : decode b_Pl_leaveAlike 12 = .ok (.isub, 1) := by decide +kernel
theorem d_Pl_leaveAlike_13 : decode b_Pl_leaveAlike 13 = .ok (.istore 4, 2) := by decide +kernel
theorem d_Pl_leaveAlike_15 : decode b_Pl_leaveAlike 15 = .ok (.aload_n 0, 1) := by decide +kernel
theorem d_Pl_leaveAlike_16 : decode b_Pl_leaveAlike 16 = .ok (.getfield 15, 3) := by decide +kernel
theorem d_Pl_leaveAlike_19 : decode b_Pl_leaveAlike 19 = .ok (.iload_n 2, 1) := by decide +kernel
theorem d_Pl_leaveAlike_20 : decode b_Pl_leaveAlike 20 = .ok (.iaload, 1) := by decide +kernel
theorem d_Pl_leaveAlike_21 : decode b_Pl_leaveAlike 21 = .ok (.aload_n 0, 1) := by decide +kernel
theorem d_Pl_leaveAlike_22 : decode b_Pl_leaveAlike 22 = .ok (.getfield 15, 3) := by decide +kernel
theorem d_Pl_leaveAlike_25 : decode b_Pl_leaveAlike 25 = .ok (.iload_n 1, 1) := by decide +kernel
theorem d_Pl_leaveAlike_26 : decode b_Pl_leaveAlike 26 = .ok (.iaload, 1) := by decide +kernel
theorem d_Pl_leaveAlike_27 : decode b_Pl_leaveAlike 27 = .ok (.isub, 1) := by decide +kernel
theorem d_Pl_leaveAlike_28 : decode b_Pl_leaveAlike 28 = .ok (.istore 5, 2) := by decide +kernel
theorem d_Pl_leaveAlike_30 : decode b_Pl_leaveAlike 30 = .ok (.aload_n 0, 1) := by decide +kernel
theorem d_Pl_leaveAlike_31 : decode b_Pl_leaveAlike 31 = .ok (.getfield 9, 3) := by decide +kernel
theorem d_Pl_leaveAlike_34 : decode b_Pl_leaveAlike 34 = .ok (.iload_n 3, 1) := by decide +kernel
theorem d_Pl_leaveAlike_35 : decode b_Pl_leaveAlike 35 = .ok (.iaload, 1) := by decide +kernel
theorem d_Pl_leaveAlike_36 : decode b_Pl_leaveAlike 36 = .ok (.aload_n 0, 1) := by decide +kernel
theorem d_Pl_leaveAlike_37 : decode b_Pl_leaveAlike 37 = .ok (.getfield 9, 3) := by decide +kernel
theorem d_Pl_leaveAlike_40 : decode b_Pl_leaveAlike 40 = .ok (.iload_n 1, 1) := by decide +kernel
theorem d_Pl_leaveAlike_41 : decode b_Pl_leaveAlike 41 = .ok (.iaload, 1) := by decide +kernel
theorem d_Pl_leaveAlike_42 : decode b_Pl_leaveAlike 42 = .ok (.isub, 1) := by decide +kernel
theorem d_Pl_leaveAlike_43 : decode b_Pl_leaveAlike 43 = .ok (.istore 6, 2) := by decide +kernel
theorem d_Pl_leaveAlike_45 : decode b_Pl_leaveAlike 45 = .ok (.aload_n 0, 1) := by decide +kernel
theorem d_Pl_leaveAlike_46 : decode b_Pl_leaveAlike 46 = .ok (.getfield 15, 3) := by decide +kernel
theorem d_Pl_leaveAlike_49 : decode b_Pl_leaveAlike 49 = .ok (.iload_n 3, 1) := by decide +kernel
theorem d_Pl_leaveAlike_50 : decode b_Pl_leaveAlike 50 = .ok (.iaload, 1) := by decide +kernel
theorem d_Pl_leaveAlike_51 : decode b_Pl_leaveAlike 51 = .ok (.aload_n 0, 1) := by decide +kernel
theorem d_Pl_leaveAlike_52 : decode b_Pl_leaveAlike 52 = .ok (.getfield 15, 3) := by decide +kernel
theorem d_Pl_leaveAlike_55 : decode b_Pl_leaveAlike 55 = .ok (.iload_n 1, 1) := by decide +kernel
theorem d_Pl_leaveAlike_56 : decode b_Pl_leaveAlike 56 = .ok (.iaload, 1) := by decide +kernel
theorem d_Pl_leaveAlike_57 : decode b_Pl_leaveAlike 57 = .ok (.isub, 1) := by decide +kernel
theorem d_Pl_leaveAlike_58 : decode b_Pl_leaveAlike 58 = .ok (.istore 7, 2) := by decide +kernel
theorem d_Pl_leaveAlike_60 : decode b_Pl_leaveAlike 60 = .ok (.iload 4, 2) := by decide +kernel
theorem d_Pl_leaveAlike_62 : decode b_Pl_leaveAlike 62 = .ok (.iload 5, 2) := by decide +kernel
theorem d_Pl_leaveAlike_64 : decode b_Pl_leaveAlike 64 = .ok (.iload 6, 2) := by decide +kernel
theorem d_Pl_leaveAlike_66 : decode b_Pl_leaveAlike 66 = .ok (.iload 7, 2) := by decide +kernel
theorem d_Pl_leaveAlike_68 : decode b_Pl_leaveAlike 68 = .ok (.invokestatic 71, 3) := by decide +kernel
theorem d_Pl_leaveAlike_71 : decode b_Pl_leaveAlike 71 = .ok (.ifCond .ne 21, 3) := by decide +kernel
theorem d_Pl_leaveAlike_74 : decode b_Pl_leaveAlike 74 = .ok (.iload 4, 2) := by decide +kernel
theorem d_Pl_leaveAlike_76 : decode b_Pl_leaveAlike 76 = .ok (.iload 6, 2) := by decide +kernel
theorem d_Pl_leaveAlike_78 : decode b_Pl_leaveAlike 78 = .ok (.imul, 1) := by decide +kernel
theorem d_Pl_leaveAlike_79 : decode b_Pl_leaveAlike 79 = .ok (.iload 5, 2) := by decide +kernel
theorem d_Pl_leaveAlike_81 : decode b_Pl_leaveAlike 81 = .ok (.iload 7, 2) := by decide +kernel
theorem d_Pl_leaveAlike_83 : decode b_Pl_leaveAlike 83 = .ok (.imul, 1) := by decide +kernel
theorem d_Pl_leaveAlike_84 : decode b_Pl_leaveAlike 84 = .ok (.iadd, 1) := by decide +kernel
theorem d_Pl_leaveAlike_85 : decode b_Pl_leaveAlike 85 = .ok (.ifCond .le 7, 3) := by decide +kernel
theorem d_Pl_leaveAlike_88 : decode b_Pl_leaveAlike 88 = .ok (.iconst 1, 1) := by decide +kernel
theorem d_Pl_leaveAlike_89 : decode b_Pl_leaveAlike 89 = .ok (.goto 4, 3) := by decide +kernel
theorem d_Pl_leaveAlike_92 : decode b_Pl_leaveAlike 92 = .ok (.iconst 0, 1) := by decide +kernel
theorem d_Pl_leaveAlike_93 : decode b_Pl_leaveAlike 93 = .ok (.ireturn, 1) := by decide +kernel
theorem d_Pl_boxesMeet_0 : decode b_Pl_boxesMeet 0 = .ok (.aload_n 0, 1) := by decide +kernel
theorem d_Pl_boxesMeet_1 : decode b_Pl_boxesMeet 1 = .ok (.iload_n 1, 1) := by decide +kernel
theorem d_Pl_boxesMeet_2 : decode b_Pl_boxesMeet 2 = .ok (.iaload, 1) := by decide +kernel
theorem d_Pl_boxesMeet_3 : decode b_Pl_boxesMeet 3 = .ok (.aload_n 0, 1) := by decide +kernel
theorem d_Pl_boxesMeet_4 : decode b_Pl_boxesMeet 4 = .ok (.iload_n 2, 1) := by decide +kernel
theorem d_Pl_boxesMeet_5 : decode b_Pl_boxesMeet 5 = .ok (.iaload, 1) := by decide +kernel
theorem d_Pl_boxesMeet_6 : decode b_Pl_boxesMeet 6 = .ok (.invokestatic 75, 3) := by decide +kernel
theorem d_Pl_boxesMeet_9 : decode b_Pl_boxesMeet 9 = .ok (.aload_n 0, 1) := by decide +kernel
theorem d_Pl_boxesMeet_10 : decode b_Pl_boxesMeet 10 = .ok (.iload_n 3, 1) := by decide +kernel
theorem d_Pl_boxesMeet_11 : decode b_Pl_boxesMeet 11 = .ok (.iaload, 1) := by decide +kernel
theorem d_Pl_boxesMeet_12 : decode b_Pl_boxesMeet 12 = .ok (.aload_n 0, 1) := by decide +kernel
theorem d_Pl_boxesMeet_13 : decode b_Pl_boxesMeet 13 = .ok (.iload 4, 2) := by decide +kernel
theorem d_Pl_boxesMeet_15 : decode b_Pl_boxesMeet 15 = .ok (.iaload, 1) := by decide +kernel
theorem d_Pl_boxesMeet_16 : decode b_Pl_boxesMeet 16 = .ok (.invokestatic 81, 3) := by decide +kernel
theorem d_Pl_boxesMeet_19 : decode b_Pl_boxesMeet 19 = .ok (.if_icmp .lt 29, 3) := by decide +kernel
theorem d_Pl_boxesMeet_22 : decode b_Pl_boxesMeet 22 = .ok (.aload_n 0, 1) := by decide +kernel
theorem d_Pl_boxesMeet_23 : decode b_Pl_boxesMeet 23 = .ok (.iload_n 3, 1) := by decide +kernel
theorem d_Pl_boxesMeet_24 : decode b_Pl_boxesMeet 24 = .ok (.iaload, 1) := by decide +kernel
theorem d_Pl_boxesMeet_25 : decode b_Pl_boxesMeet 25 = .ok (.aload_n 0, 1) := by decide +kernel
theorem d_Pl_boxesMeet_26 : decode b_Pl_boxesMeet 26 = .ok (.iload 4, 2) := by decide +kernel
theorem d_Pl_boxesMeet_28 : decode b_Pl_boxesMeet 28 = .ok (.iaload, 1) := by decide +kernel
theorem d_Pl_boxesMeet_29 : decode b_Pl_boxesMeet 29 = .ok (.invokestatic 75, 3) := by decide +kernel
theorem d_Pl_boxesMeet_32 : decode b_Pl_boxesMeet 32 = .ok (.aload_n 0, 1) := by decide +kernel
theorem d_Pl_boxesMeet_33 : decode b_Pl_boxesMeet 33 = .ok (.iload_n 1, 1) := by decide +kernel
theorem d_Pl_boxesMeet_34 : decode b_Pl_boxesMeet 34 = .ok (.iaload, 1) := by decide +kernel
theorem d_Pl_boxesMeet_35 : decode b_Pl_boxesMeet 35 = .ok (.aload_n 0, 1) := by decide +kernel
theorem d_Pl_boxesMeet_36 : decode b_Pl_boxesMeet 36 = .ok (.iload_n 2, 1) := by decide +kernel
theorem d_Pl_boxesMeet_37 : decode b_Pl_boxesMeet 37 = .ok (.iaload, 1) := by decide +kernel
theorem d_Pl_boxesMeet_38 : decode b_Pl_boxesMeet 38 = .ok (.invokestatic 81, 3) := by decide +kernel
theorem d_Pl_boxesMeet_41 : decode b_Pl_boxesMeet 41 = .ok (.if_icmp .lt 7, 3) := by decide +kernel
theorem d_Pl_boxesMeet_44 : decode b_Pl_boxesMeet 44 = .ok (.iconst 1, 1) := by decide +kernel
theorem d_Pl_boxesMeet_45 : decode b_Pl_boxesMeet 45 = .ok (.goto 4, 3) := by decide +kernel
theorem d_Pl_boxesMeet_48 : decode b_Pl_boxesMeet 48 = .ok (.iconst 0, 1) := by decide +kernel
theorem d_Pl_boxesMeet_49 : decode b_Pl_boxesMeet 49 = .ok (.ireturn, 1) := by decide +kernel
theorem d_Pl_clash_0 : decode b_Pl_clash 0 = .ok (.aload_n 0, 1) := by decide +kernel
theorem d_Pl_clash_1 : decode b_Pl_clash 1 = .ok (.getfield 24, 3) := by decide +kernel
theorem d_Pl_clash_4 : decode b_Pl_clash 4 = .ok (.iload_n 1, 1) := by decide +kernel
theorem d_Pl_clash_5 : decode b_Pl_clash 5 = .ok (.iaload, 1) := by decide +kernel
theorem d_Pl_clash_6 : decode b_Pl_clash 6 = .ok (.istore_n 3, 1) := by decide +kernel
theorem d_Pl_clash_7 : decode b_Pl_clash 7 = .ok (.aload_n 0, 1) := by decide +kernel
theorem d_Pl_clash_8 : decode b_Pl_clash 8 = .ok (.getfield 27, 3) := by decide +kernel
theorem d_Pl_clash_11 : decode b_Pl_clash 11 = .ok (.iload_n 1, 1) := by decide +kernel
theorem d_Pl_clash_12 : decode b_Pl_clash 12 = .ok (.iaload, 1) := by decide +kernel
theorem d_Pl_clash_13 : decode b_Pl_clash 13 = .ok (.istore 4, 2) := by decide +kernel
theorem d_Pl_clash_15 : decode b_Pl_clash 15 = .ok (.aload_n 0, 1) := by decide +kernel
theorem d_Pl_clash_16 : decode b_Pl_clash 16 = .ok (.getfield 24, 3) := by decide +kernel
theorem d_Pl_clash_19 : decode b_Pl_clash 19 = .ok (.iload_n 2, 1) := by decide +kernel
theorem d_Pl_clash_20 : decode b_Pl_clash 20 = .ok (.iaload, 1) := by decide +kernel
theorem d_Pl_clash_21 : decode b_Pl_clash 21 = .ok (.istore 5, 2) := by decide +kernel
theorem d_Pl_clash_23 : decode b_Pl_clash 23 = .ok (.aload_n 0, 1) := by decide +kernel
theorem d_Pl_clash_24 : decode b_Pl_clash 24 = .ok (.getfield 27, 3) := by decide +kernel
theorem d_Pl_clash_27 : decode b_Pl_clash 27 = .ok (.iload_n 2, 1) := by decide +kernel
theorem d_Pl_clash_28 : decode b_Pl_clash 28 = .ok (.iaload, 1) := by decide +kernel
theorem d_Pl_clash_29 : decode b_Pl_clash 29 = .ok (.istore 6, 2) := by decide +kernel
theorem d_Pl_clash_31 : decode b_Pl_clash 31 = .ok (.iload_n 3, 1) := by decide +kernel
theorem d_Pl_clash_32 : decode b_Pl_clash 32 = .ok (.iload 5, 2) := by decide +kernel
theorem d_Pl_clash_34 : decode b_Pl_clash 34 = .ok (.if_icmp .ne 13, 3) := by decide +kernel
theorem d_Pl_clash_37 : decode b_Pl_clash 37 = .ok (.aload_n 0, 1) := by decide +kernel
theorem d_Pl_clash_38 : decode b_Pl_clash 38 = .ok (.iload_n 3, 1) := by decide +kernel
theorem d_Pl_clash_39 : decode b_Pl_clash 39 = .ok (.iload 4, 2) := by decide +kernel
theorem d_Pl_clash_41 : decode b_Pl_clash 41 = .ok (.iload 6, 2) := by decide +kernel
theorem d_Pl_clash_43 : decode b_Pl_clash 43 = .ok (.invokevirtual 59, 3) := by decide +kernel
theorem d_Pl_clash_46 : decode b_Pl_clash 46 = .ok (.ireturn, 1) := by decide +kernel
theorem d_Pl_clash_47 : decode b_Pl_clash 47 = .ok (.iload_n 3, 1) := by decide +kernel
theorem d_Pl_clash_48 : decode b_Pl_clash 48 = .ok (.iload 6, 2) := by decide +kernel
theorem d_Pl_clash_50 : decode b_Pl_clash 50 = .ok (.if_icmp .ne 13, 3) := by decide +kernel
theorem d_Pl_clash_53 : decode b_Pl_clash 53 = .ok (.aload_n 0, 1) := by decide +kernel
theorem d_Pl_clash_54 : decode b_Pl_clash 54 = .ok (.iload_n 3, 1) := by decide +kernel
theorem d_Pl_clash_55 : decode b_Pl_clash 55 = .ok (.iload 4, 2) := by decide +kernel
theorem d_Pl_clash_57 : decode b_Pl_clash 57 = .ok (.iload 5, 2) := by decide +kernel
theorem d_Pl_clash_59 : decode b_Pl_clash 59 = .ok (.invokevirtual 59, 3) := by decide +kernel
theorem d_Pl_clash_62 : decode b_Pl_clash 62 = .ok (.ireturn, 1) := by decide +kernel
theorem d_Pl_clash_63 : decode b_Pl_clash 63 = .ok (.iload 4, 2) := by decide +kernel
theorem d_Pl_clash_65 : decode b_Pl_clash 65 = .ok (.iload 5, 2) := by decide +kernel
theorem d_Pl_clash_67 : decode b_Pl_clash 67 = .ok (.if_icmp .ne 13, 3) := by decide +kernel
theorem d_Pl_clash_70 : decode b_Pl_clash 70 = .ok (.aload_n 0, 1) := by decide +kernel
theorem d_Pl_clash_71 : decode b_Pl_clash 71 = .ok (.iload 4, 2) := by decide +kernel
theorem d_Pl_clash_73 : decode b_Pl_clash 73 = .ok (.iload_n 3, 1) := by decide +kernel
theorem d_Pl_clash_74 : decode b_Pl_clash 74 = .ok (.iload 6, 2) := by decide +kernel
theorem d_Pl_clash_76 : decode b_Pl_clash 76 = .ok (.invokevirtual 59, 3) := by decide +kernel
theorem d_Pl_clash_79 : decode b_Pl_clash 79 = .ok (.ireturn, 1) := by decide +kernel
theorem d_Pl_clash_80 : decode b_Pl_clash 80 = .ok (.iload 4, 2) := by decide +kernel
theorem d_Pl_clash_82 : decode b_Pl_clash 82 = .ok (.iload 6, 2) := by decide +kernel
theorem d_Pl_clash_84 : decode b_Pl_clash 84 = .ok (.if_icmp .ne 13, 3) := by decide +kernel
theorem d_Pl_clash_87 : decode b_Pl_clash 87 = .ok (.aload_n 0, 1) := by decide +kernel
theorem d_Pl_clash_88 : decode b_Pl_clash 88 = .ok (.iload 4, 2) := by decide +kernel
theorem d_Pl_clash_90 : decode b_Pl_clash 90 = .ok (.iload_n 3, 1) := by decide +kernel
theorem d_Pl_clash_91 : decode b_Pl_clash 91 = .ok (.iload 5, 2) := by decide +kernel
theorem d_Pl_clash_93 : decode b_Pl_clash 93 = .ok (.invokevirtual 59, 3) := by decide +kernel
theorem d_Pl_clash_96 : decode b_Pl_clash 96 = .ok (.ireturn, 1) := by decide +kernel
theorem d_Pl_clash_97 : decode b_Pl_clash 97 = .ok (.aload_n 0, 1) := by decide +kernel
theorem d_Pl_clash_98 : decode b_Pl_clash 98 = .ok (.getfield 9, 3) := by decide +kernel
theorem d_Pl_clash_101 : decode b_Pl_clash 101 = .ok (.iload_n 3, 1) := by decide +kernel
theorem d_Pl_clash_102 : decode b_Pl_clash 102 = .ok (.iload 4, 2) := by decide +kernel
theorem d_Pl_clash_104 : decode b_Pl_clash 104 = .ok (.iload 5, 2) := by decide +kernel
theorem d_Pl_clash_106 : decode b_Pl_clash 106 = .ok (.iload 6, 2) := by decide +kernel
theorem d_Pl_clash_108 : decode b_Pl_clash 108 = .ok (.invokestatic 63, 3) := by decide +kernel
theorem d_Pl_clash_111 : decode b_Pl_clash 111 = .ok (.ifCond .eq 52, 3) := by decide +kernel
theorem d_Pl_clash_114 : decode b_Pl_clash 114 = .ok (.aload_n 0, 1) := by decide +kernel
theorem d_Pl_clash_115 : decode b_Pl_clash 115 = .ok (.getfield 15, 3) := by decide +kernel
theorem d_Pl_clash_118 : decode b_Pl_clash 118 = .ok (.iload_n 3, 1) := by decide +kernel
theorem d_Pl_clash_119 : decode b_Pl_clash 119 = .ok (.iload 4, 2) := by decide +kernel
theorem d_Pl_clash_121 : decode b_Pl_clash 121 = .ok (.iload 5, 2) := by decide +kernel
theorem d_Pl_clash_123 : decode b_Pl_clash 123 = .ok (.iload 6, 2) := by decide +kernel
theorem d_Pl_clash_125 : decode b_Pl_clash 125 = .ok (.invokestatic 63, 3) := by decide +kernel
theorem d_Pl_clash_128 : decode b_Pl_clash 128 = .ok (.ifCond .eq 35, 3) := by decide +kernel
theorem d_Pl_clash_131 : decode b_Pl_clash 131 = .ok (.aload_n 0, 1) := by decide +kernel
theorem d_Pl_clash_132 : decode b_Pl_clash 132 = .ok (.iload_n 3, 1) := by decide +kernel
theorem d_Pl_clash_133 : decode b_Pl_clash 133 = .ok (.iload 4, 2) := by decide +kernel
theorem d_Pl_clash_135 : decode b_Pl_clash 135 = .ok (.iload 5, 2) := by decide +kernel
theorem d_Pl_clash_137 : decode b_Pl_clash 137 = .ok (.iload 6, 2) := by decide +kernel
theorem d_Pl_clash_139 : decode b_Pl_clash 139 = .ok (.invokevirtual 67, 3) := by decide +kernel
theorem d_Pl_clash_142 : decode b_Pl_clash 142 = .ok (.ifCond .eq 21, 3) := by decide +kernel
theorem d_Pl_clash_145 : decode b_Pl_clash 145 = .ok (.aload_n 0, 1) := by decide +kernel
theorem d_Pl_clash_146 : decode b_Pl_clash 146 = .ok (.iload 5, 2) := by decide +kernel
theorem d_Pl_clash_148 : decode b_Pl_clash 148 = .ok (.iload 6, 2) := by decide +kernel
theorem d_Pl_clash_150 : decode b_Pl_clash 150 = .ok (.iload_n 3, 1) := by decide +kernel
theorem d_Pl_clash_151 : decode b_Pl_clash 151 = .ok (.iload 4, 2) := by decide +kernel
theorem d_Pl_clash_153 : decode b_Pl_clash 153 = .ok (.invokevirtual 67, 3) := by decide +kernel
theorem d_Pl_clash_156 : decode b_Pl_clash 156 = .ok (.ifCond .eq 7, 3) := by decide +kernel
theorem d_Pl_clash_159 : decode b_Pl_clash 159 = .ok (.iconst 1, 1) := by decide +kernel
theorem d_Pl_clash_160 : decode b_Pl_clash 160 = .ok (.goto 4, 3) := by decide +kernel
theorem d_Pl_clash_163 : decode b_Pl_clash 163 = .ok (.iconst 0, 1) := by decide +kernel
theorem d_Pl_clash_164 : decode b_Pl_clash 164 = .ok (.ireturn, 1) := by decide +kernel
theorem d_Pl_firstWrongWall_0 : decode b_Pl_firstWrongWall 0 = .ok (.iconst 1, 1) := by decide +kernel
theorem d_Pl_firstWrongWall_1 : decode b_Pl_firstWrongWall 1 = .ok (.istore_n 1, 1) := by decide +kernel
theorem d_Pl_firstWrongWall_2 : decode b_Pl_firstWrongWall 2 = .ok (.iload_n 1, 1) := by decide +kernel
theorem d_Pl_firstWrongWall_3 : decode b_Pl_firstWrongWall 3 = .ok (.aload_n 0, 1) := by decide +kernel
theorem d_Pl_firstWrongWall_4 : decode b_Pl_firstWrongWall 4 = .ok (.getfield 47, 3) := by decide +kernel
theorem d_Pl_firstWrongWall_7 : decode b_Pl_firstWrongWall 7 = .ok (.if_icmp .ge 33, 3) := by decide +kernel
theorem d_Pl_firstWrongWall_10 : decode b_Pl_firstWrongWall 10 = .ok (.iconst 0, 1) := by decide +kernel
theorem d_Pl_firstWrongWall_11 : decode b_Pl_firstWrongWall 11 = .ok (.istore_n 2, 1) := by decide +kernel
theorem d_Pl_firstWrongWall_12 : decode b_Pl_firstWrongWall 12 = .ok (.iload_n 2, 1) := by decide +kernel
theorem d_Pl_firstWrongWall_13 : decode b_Pl_firstWrongWall 13 = .ok (.iload_n 1, 1) := by decide +kernel
theorem d_Pl_firstWrongWall_14 : decode b_Pl_firstWrongWall 14 = .ok (.if_icmp .ge 20, 3) := by decide +kernel
theorem d_Pl_firstWrongWall_17 : decode b_Pl_firstWrongWall 17 = .ok (.aload_n 0, 1) := by decide +kernel
theorem d_Pl_firstWrongWall_18 : decode b_Pl_firstWrongWall 18 = .ok (.iload_n 2, 1) := by decide +kernel
theorem d_Pl_firstWrongWall_19 : decode b_Pl_firstWrongWall 19 = .ok (.iload_n 1, 1) := by decide +kernel
theorem d_Pl_firstWrongWall_20 : decode b_Pl_firstWrongWall 20 = .ok (.invokevirtual 56, 3) := by decide +kernel
theorem d_Pl_firstWrongWall_23 : decode b_Pl_firstWrongWall 23 = .ok (.ifCond .eq 5, 3) := by decide +kernel
theorem d_Pl_firstWrongWall_26 : decode b_Pl_firstWrongWall 26 = .ok (.iload_n 1, 1) := by decide +kernel
theorem d_Pl_firstWrongWall_27 : decode b_Pl_firstWrongWall 27 = .ok (.ireturn, 1) := by decide +kernel
theorem d_Pl_firstWrongWall_28 : decode b_Pl_firstWrongWall 28 = .ok (.iinc 2 1, 3) := by decide +kernel
theorem d_Pl_firstWrongWall_31 : decode b_Pl_firstWrongWall 31 = .ok (.goto (-19), 3) := by decide +kernel
theorem d_Pl_firstWrongWall_34 : decode b_Pl_firstWrongWall 34 = .ok (.iinc 1 1, 3) := by decide +kernel
theorem d_Pl_firstWrongWall_37 : decode b_Pl_firstWrongWall 37 = .ok (.goto (-35), 3) := by decide +kernel
theorem d_Pl_firstWrongWall_40 : decode b_Pl_firstWrongWall 40 = .ok (.iconst (-1), 1) := by decide +kernel
theorem d_Pl_firstWrongWall_41 : decode b_Pl_firstWrongWall 41 = .ok (.ireturn, 1) := by decide +kernel
theorem d_Pl_stops_0 : decode b_Pl_stops 0 = .ok (.aload_n 0, 1) := by decide +kernel
theorem d_Pl_stops_1 : decode b_Pl_stops 1 = .ok (.getfield 33, 3) := by decide +kernel
theorem d_Pl_stops_4 : decode b_Pl_stops 4 = .ok (.iload_n 1, 1) := by decide +kernel
theorem d_Pl_stops_5 : decode b_Pl_stops 5 = .ok (.iaload, 1) := by decide +kernel
theorem d_Pl_stops_6 : decode b_Pl_stops 6 = .ok (.iconst (-1), 1) := by decide +kernel
theorem d_Pl_stops_7 : decode b_Pl_stops 7 = .ok (.if_icmp .ne 5, 3) := by decide +kernel
theorem d_Pl_stops_10 : decode b_Pl_stops 10 = .ok (.iconst 1, 1) := by decide +kernel
theorem d_Pl_stops_11 : decode b_Pl_stops 11 = .ok (.ireturn, 1) := by decide +kernel
theorem d_Pl_stops_12 : decode b_Pl_stops 12 = .ok (.iload_n 2, 1) := by decide +kernel
theorem d_Pl_stops_13 : decode b_Pl_stops 13 = .ok (.ifCond .eq 12, 3) := by decide +kernel
theorem d_Pl_stops_16 : decode b_Pl_stops 16 = .ok (.aload_n 0, 1) := by decide +kernel
theorem d_Pl_stops_17 : decode b_Pl_stops 17 = .ok (.getfield 30, 3) := by decide +kernel
theorem d_Pl_stops_20 : decode b_Pl_stops 20 = .ok (.iload_n 1, 1) := by decide +kernel
theorem d_Pl_stops_21 : decode b_Pl_stops 21 = .ok (.iaload, 1) := by decide +kernel
theorem d_Pl_stops_22 : decode b_Pl_stops 22 = .ok (.goto 9, 3) := by decide +kernel
theorem d_Pl_stops_25 : decode b_Pl_stops 25 = .ok (.aload_n 0, 1) := by decide +kernel
theorem d_Pl_stops_26 : decode b_Pl_stops 26 = .ok (.getfield 33, 3) := by decide +kernel
theorem d_Pl_stops_29 : decode b_Pl_stops 29 = .ok (.iload_n 1, 1) := by decide +kernel
theorem d_Pl_stops_30 : decode b_Pl_stops 30 = .ok (.iaload, 1) := by decide +kernel
theorem d_Pl_stops_31 : decode b_Pl_stops 31 = .ok (.istore_n 3, 1) := by decide +kernel
theorem d_Pl_stops_32 : decode b_Pl_stops 32 = .ok (.iload_n 2, 1) := by decide +kernel
theorem d_Pl_stops_33 : decode b_Pl_stops 33 = .ok (.ifCond .eq 12, 3) := by decide +kernel
theorem d_Pl_stops_36 : decode b_Pl_stops 36 = .ok (.aload_n 0, 1) := by decide +kernel
theorem d_Pl_stops_37 : decode b_Pl_stops 37 = .ok (.getfield 33, 3) := by decide +kernel
theorem d_Pl_stops_40 : decode b_Pl_stops 40 = .ok (.iload_n 1, 1) := by decide +kernel
theorem d_Pl_stops_41 : decode b_Pl_stops 41 = .ok (.iaload, 1) := by decide +kernel
theorem d_Pl_stops_42 : decode b_Pl_stops 42 = .ok (.goto 9, 3) := by decide +kernel
theorem d_Pl_stops_45 : decode b_Pl_stops 45 = .ok (.aload_n 0, 1) := by decide +kernel
theorem d_Pl_stops_46 : decode b_Pl_stops 46 = .ok (.getfield 30, 3) := by decide +kernel
theorem d_Pl_stops_49 : decode b_Pl_stops 49 = .ok (.iload_n 1, 1) := by decide +kernel
theorem d_Pl_stops_50 : decode b_Pl_stops 50 = .ok (.iaload, 1) := by decide +kernel
theorem d_Pl_stops_51 : decode b_Pl_stops 51 = .ok (.istore 4, 2) := by decide +kernel
theorem d_Pl_stops_53 : decode b_Pl_stops 53 = .ok (.aload_n 0, 1) := by decide +kernel
theorem d_Pl_stops_54 : decode b_Pl_stops 54 = .ok (.getfield 21, 3) := by decide +kernel
theorem d_Pl_stops_57 : decode b_Pl_stops 57 = .ok (.iload_n 3, 1) := by decide +kernel
theorem d_Pl_stops_58 : decode b_Pl_stops 58 = .ok (.iaload, 1) := by decide +kernel
theorem d_Pl_stops_59 : decode b_Pl_stops 59 = .ok (.aload_n 0, 1) := by decide +kernel
theorem d_Pl_stops_60 : decode b_Pl_stops 60 = .ok (.getfield 21, 3) := by decide +kernel
theorem d_Pl_stops_63 : decode b_Pl_stops 63 = .ok (.iload 4, 2) := by decide +kernel
theorem d_Pl_stops_65 : decode b_Pl_stops 65 = .ok (.iaload, 1) := by decide +kernel
theorem d_Pl_stops_66 : decode b_Pl_stops 66 = .ok (.invokestatic 81, 3) := by decide +kernel
theorem d_Pl_stops_69 : decode b_Pl_stops 69 = .ok (.aload_n 0, 1) := by decide +kernel
theorem d_Pl_stops_70 : decode b_Pl_stops 70 = .ok (.getfield 18, 3) := by decide +kernel
theorem d_Pl_stops_73 : decode b_Pl_stops 73 = .ok (.iload_n 3, 1) := by decide +kernel
theorem d_Pl_stops_74 : decode b_Pl_stops 74 = .ok (.iaload, 1) := by decide +kernel
theorem d_Pl_stops_75 : decode b_Pl_stops 75 = .ok (.aload_n 0, 1) := by decide +kernel
theorem d_Pl_stops_76 : decode b_Pl_stops 76 = .ok (.getfield 18, 3) := by decide +kernel
theorem d_Pl_stops_79 : decode b_Pl_stops 79 = .ok (.iload 4, 2) := by decide +kernel
theorem d_Pl_stops_81 : decode b_Pl_stops 81 = .ok (.iaload, 1) := by decide +kernel
theorem d_Pl_stops_82 : decode b_Pl_stops 82 = .ok (.invokestatic 75, 3) := by decide +kernel
theorem d_Pl_stops_85 : decode b_Pl_stops 85 = .ok (.isub, 1) := by decide +kernel
theorem d_Pl_stops_86 : decode b_Pl_stops 86 = .ok (.istore 5, 2) := by decide +kernel
theorem d_Pl_stops_88 : decode b_Pl_stops 88 = .ok (.aload_n 0, 1) := by decide +kernel
theorem d_Pl_stops_89 : decode b_Pl_stops 89 = .ok (.getfield 18, 3) := by decide +kernel
theorem d_Pl_stops_92 : decode b_Pl_stops 92 = .ok (.iload 4, 2) := by decide +kernel
theorem d_Pl_stops_94 : decode b_Pl_stops 94 = .ok (.iaload, 1) := by decide +kernel
theorem d_Pl_stops_95 : decode b_Pl_stops 95 = .ok (.aload_n 0, 1) := by decide +kernel
theorem d_Pl_stops_96 : decode b_Pl_stops 96 = .ok (.getfield 18, 3) := by decide +kernel
theorem d_Pl_stops_99 : decode b_Pl_stops 99 = .ok (.iload_n 3, 1) := by decide +kernel
theorem d_Pl_stops_100 : decode b_Pl_stops 100 = .ok (.iaload, 1) := by decide +kernel
theorem d_Pl_stops_101 : decode b_Pl_stops 101 = .ok (.isub, 1) := by decide +kernel
theorem d_Pl_stops_102 : decode b_Pl_stops 102 = .ok (.bipush 24, 2) := by decide +kernel
theorem d_Pl_stops_104 : decode b_Pl_stops 104 = .ok (.if_icmp .gt 10, 3) := by decide +kernel
theorem d_Pl_stops_107 : decode b_Pl_stops 107 = .ok (.iload 5, 2) := by decide +kernel
theorem d_Pl_stops_109 : decode b_Pl_stops 109 = .ok (.bipush 56, 2) := by decide +kernel
theorem d_Pl_stops_111 : decode b_Pl_stops 111 = .ok (.if_icmp .ge 7, 3) := by decide +kernel
theorem d_Pl_stops_114 : decode b_Pl_stops 114 = .ok (.iconst 1, 1) := by decide +kernel
theorem d_Pl_stops_115 : decode b_Pl_stops 115 = .ok (.goto 4, 3) := by decide +kernel
theorem d_Pl_stops_118 : decode b_Pl_stops 118 = .ok (.iconst 0, 1) := by decide +kernel
theorem d_Pl_stops_119 : decode b_Pl_stops 119 = .ok (.ireturn, 1) := by decide +kernel
theorem d_Cr_comesFromFront_0 : decode b_Cr_comesFromFront 0 = .ok (.aload_n 0, 1) := by decide +kernel
theorem d_Cr_comesFromFront_1 : decode b_Cr_comesFromFront 1 = .ok (.getfield 15, 3) := by decide +kernel
theorem d_Cr_comesFromFront_4 : decode b_Cr_comesFromFront 4 = .ok (.iload_n 1, 1) := by decide +kernel
theorem d_Cr_comesFromFront_5 : decode b_Cr_comesFromFront 5 = .ok (.iaload, 1) := by decide +kernel
theorem d_Cr_comesFromFront_6 : decode b_Cr_comesFromFront 6 = .ok (.ifCond .ge 7, 3) := by decide +kernel
theorem d_Cr_comesFromFront_9 : decode b_Cr_comesFromFront 9 = .ok (.iconst 1, 1) := by decide +kernel
theorem d_Cr_comesFromFront_10 : decode b_Cr_comesFromFront 10 = .ok (.goto 4, 3) := by decide +kernel
theorem d_Cr_comesFromFront_13 : decode b_Cr_comesFromFront 13 = .ok (.iconst 0, 1) := by decide +kernel
theorem d_Cr_comesFromFront_14 : decode b_Cr_comesFromFront 14 = .ok (.ireturn, 1) := by decide +kernel
theorem d_Cr_isUpToOne_0 : decode b_Cr_isUpToOne 0 = .ok (.iload_n 1, 1) := by decide +kernel
theorem d_Cr_isUpToOne_1 : decode b_Cr_isUpToOne 1 = .ok (.ifCond .le 20, 3) := by decide +kernel
theorem d_Cr_isUpToOne_4 : decode b_Cr_isUpToOne 4 = .ok (.iload_n 0, 1) := by decide +kernel
theorem d_Cr_isUpToOne_5 : decode b_Cr_isUpToOne 5 = .ok (.ifCond .le 12, 3) := by decide +kernel
theorem d_Cr_isUpToOne_8 : decode b_Cr_isUpToOne 8 = .ok (.iload_n 0, 1) := by decide +kernel
theorem d_Cr_isUpToOne_9 : decode b_Cr_isUpToOne 9 = .ok (.iload_n 1, 1) := by decide +kernel
theorem d_Cr_isUpToOne_10 : decode b_Cr_isUpToOne 10 = .ok (.if_icmp .gt 7, 3) := by decide +kernel
theorem d_Cr_isUpToOne_13 : decode b_Cr_isUpToOne 13 = .ok (.iconst 1, 1) := by decide +kernel
theorem d_Cr_isUpToOne_14 : decode b_Cr_isUpToOne 14 = .ok (.goto 21, 3) := by decide +kernel
theorem d_Cr_isUpToOne_17 : decode b_Cr_isUpToOne 17 = .ok (.iconst 0, 1) := by decide +kernel
theorem d_Cr_isUpToOne_18 : decode b_Cr_isUpToOne 18 = .ok (.goto 17, 3) := by decide +kernel
theorem d_Cr_isUpToOne_21 : decode b_Cr_isUpToOne 21 = .ok (.iload_n 0, 1) := by decide +kernel
theorem d_Cr_isUpToOne_22 : decode b_Cr_isUpToOne 22 = .ok (.ifCond .ge 12, 3) := by decide +kernel
theorem d_Cr_isUpToOne_25 : decode b_Cr_isUpToOne 25 = .ok (.iload_n 0, 1) := by decide +kernel
theorem d_Cr_isUpToOne_26 : decode b_Cr_isUpToOne 26 = .ok (.iload_n 1, 1) := by decide +kernel
theorem d_Cr_isUpToOne_27 : decode b_Cr_isUpToOne 27 = .ok (.if_icmp .lt 7, 3) := by decide +kernel
theorem d_Cr_isUpToOne_30 : decode b_Cr_isUpToOne 30 = .ok (.iconst 1, 1) := by decide +kernel
theorem d_Cr_isUpToOne_31 : decode b_Cr_isUpToOne 31 = .ok (.goto 4, 3) := by decide +kernel
theorem d_Cr_isUpToOne_34 : decode b_Cr_isUpToOne 34 = .ok (.iconst 0, 1) := by decide +kernel
theorem d_Cr_isUpToOne_35 : decode b_Cr_isUpToOne 35 = .ok (.ireturn, 1) := by decide +kernel
theorem d_Cr_isFarther_0 : decode b_Cr_isFarther 0 = .ok (.aload_n 0, 1) := by decide +kernel
theorem d_Cr_isFarther_1 : decode b_Cr_isFarther 1 = .ok (.getfield 15, 3) := by decide +kernel
theorem d_Cr_isFarther_4 : decode b_Cr_isFarther 4 = .ok (.iload_n 1, 1) := by decide +kernel
theorem d_Cr_isFarther_5 : decode b_Cr_isFarther 5 = .ok (.iaload, 1) := by decide +kernel
theorem d_Cr_isFarther_6 : decode b_Cr_isFarther 6 = .ok (.invokestatic 80, 3) := by decide +kernel
theorem d_Cr_isFarther_9 : decode b_Cr_isFarther 9 = .ok (.i2l, 1) := by decide +kernel
theorem d_Cr_isFarther_10 : decode b_Cr_isFarther 10 = .ok (.aload_n 0, 1) := by decide +kernel
theorem d_Cr_isFarther_11 : decode b_Cr_isFarther 11 = .ok (.getfield 18, 3) := by decide +kernel
theorem d_Cr_isFarther_14 : decode b_Cr_isFarther 14 = .ok (.iload_n 2, 1) := by decide +kernel
theorem d_Cr_isFarther_15 : decode b_Cr_isFarther 15 = .ok (.iaload, 1) := by decide +kernel
theorem d_Cr_isFarther_16 : decode b_Cr_isFarther 16 = .ok (.invokestatic 80, 3) := by decide +kernel
theorem d_Cr_isFarther_19 : decode b_Cr_isFarther 19 = .ok (.i2l, 1) := by decide +kernel
theorem d_Cr_isFarther_20 : decode b_Cr_isFarther 20 = .ok (.lmul, 1) := by decide +kernel
theorem d_Cr_isFarther_21 : decode b_Cr_isFarther 21 = .ok (.lstore_n 3, 1) := by decide +kernel
theorem d_Cr_isFarther_22 : decode b_Cr_isFarther 22 = .ok (.aload_n 0, 1) := by decide +kernel
theorem d_Cr_isFarther_23 : decode b_Cr_isFarther 23 = .ok (.getfield 15, 3) := by decide +kernel
theorem d_Cr_isFarther_26 : decode b_Cr_isFarther 26 = .ok (.iload_n 2, 1) := by decide +kernel
theorem d_Cr_isFarther_27 : decode b_Cr_isFarther 27 = .ok (.iaload, 1) := by decide +kernel
theorem d_Cr_isFarther_28 : decode b_Cr_isFarther 28 = .ok (.invokestatic 80, 3) := by decide +kernel
theorem d_Cr_isFarther_31 : decode b_Cr_isFarther 31 = .ok (.i2l, 1) := by decide +kernel
theorem d_Cr_isFarther_32 : decode b_Cr_isFarther 32 = .ok (.aload_n 0, 1) := by decide +kernel
theorem d_Cr_isFarther_33 : decode b_Cr_isFarther 33 = .ok (.getfield 18, 3) := by decide +kernel
theorem d_Cr_isFarther_36 : decode b_Cr_isFarther 36 = .ok (.iload_n 1, 1) := by decide +kernel
theorem d_Cr_isFarther_37 : decode b_Cr_isFarther 37 = .ok (.iaload, 1) := by decide +kernel
theorem d_Cr_isFarther_38 : decode b_Cr_isFarther 38 = .ok (.invokestatic 80, 3) := by decide +kernel
theorem d_Cr_isFarther_41 : decode b_Cr_isFarther 41 = .ok (.i2l, 1) := by decide +kernel
theorem d_Cr_isFarther_42 : decode b_Cr_isFarther 42 = .ok (.lmul, 1) := by decide +kernel
theorem d_Cr_isFarther_43 : decode b_Cr_isFarther 43 = .ok (.lstore 5, 2) := by decide +kernel
theorem d_Cr_isFarther_45 : decode b_Cr_isFarther 45 = .ok (.lload_n 3, 1) := by decide +kernel
theorem d_Cr_isFarther_46 : decode b_Cr_isFarther 46 = .ok (.lload 5, 2) := by decide +kernel
theorem d_Cr_isFarther_48 : decode b_Cr_isFarther 48 = .ok (.lcmp, 1) := by decide +kernel
theorem d_Cr_isFarther_49 : decode b_Cr_isFarther 49 = .ok (.ifCond .le 7, 3) := by decide +kernel
theorem d_Cr_isFarther_52 : decode b_Cr_isFarther 52 = .ok (.iconst 1, 1) := by decide +kernel
theorem d_Cr_isFarther_53 : decode b_Cr_isFarther 53 = .ok (.goto 4, 3) := by decide +kernel
theorem d_Cr_isFarther_56 : decode b_Cr_isFarther 56 = .ok (.iconst 0, 1) := by decide +kernel
theorem d_Cr_isFarther_57 : decode b_Cr_isFarther 57 = .ok (.ireturn, 1) := by decide +kernel
theorem d_Cr_sectorBehind_0 : decode b_Cr_sectorBehind 0 = .ok (.aload_n 0, 1) := by decide +kernel
theorem d_Cr_sectorBehind_1 : decode b_Cr_sectorBehind 1 = .ok (.getfield 21, 3) := by decide +kernel
theorem d_Cr_sectorBehind_4 : decode b_Cr_sectorBehind 4 = .ok (.ifCond .ne 5, 3) := by decide +kernel
theorem d_Cr_sectorBehind_7 : decode b_Cr_sectorBehind 7 = .ok (.iload_n 2, 1) := by decide +kernel
theorem d_Cr_sectorBehind_8 : decode b_Cr_sectorBehind 8 = .ok (.ireturn, 1) := by decide +kernel
theorem d_Cr_sectorBehind_9 : decode b_Cr_sectorBehind 9 = .ok (.aload_n 0, 1) := by decide +kernel
theorem d_Cr_sectorBehind_10 : decode b_Cr_sectorBehind 10 = .ok (.getfield 9, 3) := by decide +kernel
theorem d_Cr_sectorBehind_13 : decode b_Cr_sectorBehind 13 = .ok (.aload_n 0, 1) := by decide +kernel
theorem d_Cr_sectorBehind_14 : decode b_Cr_sectorBehind 14 = .ok (.getfield 21, 3) := by decide +kernel
theorem d_Cr_sectorBehind_17 : decode b_Cr_sectorBehind 17 = .ok (.iconst 1, 1) := by decide +kernel
theorem d_Cr_sectorBehind_18 : decode b_Cr_sectorBehind 18 = .ok (.isub, 1) := by decide +kernel
theorem d_Cr_sectorBehind_19 : decode b_Cr_sectorBehind 19 = .ok (.iaload, 1) := by decide +kernel
theorem d_Cr_sectorBehind_20 : decode b_Cr_sectorBehind 20 = .ok (.istore_n 3, 1) := by decide +kernel
theorem d_Cr_sectorBehind_21 : decode b_Cr_sectorBehind 21 = .ok (.aload_n 0, 1) := by decide +kernel
theorem d_Cr_sectorBehind_22 : decode b_Cr_sectorBehind 22 = .ok (.iload_n 3, 1) := by decide +kernel
theorem d_Cr_sectorBehind_23 : decode b_Cr_sectorBehind 23 = .ok (.invokevirtual 41, 3) := by decide +kernel
theorem d_Cr_sectorBehind_26 : decode b_Cr_sectorBehind 26 = .ok (.ifCond .eq 12, 3) := by decide +kernel
theorem d_Cr_sectorBehind_29 : decode b_Cr_sectorBehind 29 = .ok (.aload_n 1, 1) := by decide +kernel
theorem d_Cr_sectorBehind_30 : decode b_Cr_sectorBehind 30 = .ok (.getfield 86, 3) := by decide +kernel
theorem d_Cr_sectorBehind_33 : decode b_Cr_sectorBehind 33 = .ok (.iload_n 3, 1) := by decide +kernel
theorem d_Cr_sectorBehind_34 : decode b_Cr_sectorBehind 34 = .ok (.iaload, 1) := by decide +kernel
theorem d_Cr_sectorBehind_35 : decode b_Cr_sectorBehind 35 = .ok (.goto 9, 3) := by decide +kernel
theorem d_Cr_sectorBehind_38 : decode b_Cr_sectorBehind 38 = .ok (.aload_n 1, 1) := by decide +kernel
theorem d_Cr_sectorBehind_39 : decode b_Cr_sectorBehind 39 = .ok (.getfield 89, 3) := by decide +kernel
theorem d_Cr_sectorBehind_42 : decode b_Cr_sectorBehind 42 = .ok (.iload_n 3, 1) := by decide +kernel
theorem d_Cr_sectorBehind_43 : decode b_Cr_sectorBehind 43 = .ok (.iaload, 1) := by decide +kernel
theorem d_Cr_sectorBehind_44 : decode b_Cr_sectorBehind 44 = .ok (.ireturn, 1) := by decide +kernel
theorem d_Cr_insert_0 : decode b_Cr_insert 0 = .ok (.aload_n 0, 1) := by decide +kernel
theorem d_Cr_insert_1 : decode b_Cr_insert 1 = .ok (.getfield 21, 3) := by decide +kernel
theorem d_Cr_insert_4 : decode b_Cr_insert 4 = .ok (.istore_n 2, 1) := by decide +kernel
theorem d_Cr_insert_5 : decode b_Cr_insert 5 = .ok (.iload_n 2, 1) := by decide +kernel
theorem d_Cr_insert_6 : decode b_Cr_insert 6 = .ok (.ifCond .le 39, 3) := by decide +kernel
theorem d_Cr_insert_9 : decode b_Cr_insert 9 = .ok (.aload_n 0, 1) := by decide +kernel
theorem d_Cr_insert_10 : decode b_Cr_insert 10 = .ok (.aload_n 0, 1) := by decide +kernel
theorem d_Cr_insert_11 : decode b_Cr_insert 11 = .ok (.getfield 9, 3) := by decide +kernel
theorem d_Cr_insert_14 : decode b_Cr_insert 14 = .ok (.iload_n 2, 1) := by decide +kernel
theorem d_Cr_insert_15 : decode b_Cr_insert 15 = .ok (.iconst 1, 1) := by decide +kernel
theorem d_Cr_insert_16 : decode b_Cr_insert 16 = .ok (.isub, 1) := by decide +kernel
theorem d_Cr_insert_17 : decode b_Cr_insert 17 = .ok (.iaload, 1) := by decide +kernel
theorem d_Cr_insert_18 : decode b_Cr_insert 18 = .ok (.iload_n 1, 1) := by decide +kernel
theorem d_Cr_insert_19 : decode b_Cr_insert 19 = .ok (.invokevirtual 77, 3) := by decide +kernel
theorem d_Cr_insert_22 : decode b_Cr_insert 22 = .ok (.ifCond .eq 23, 3) := by decide +kernel
theorem d_Cr_insert_25 : decode b_Cr_insert 25 = .ok (.aload_n 0, 1) := by decide +kernel
theorem d_Cr_insert_26 : decode b_Cr_insert 26 = .ok (.getfield 9, 3) := by decide +kernel
theorem d_Cr_insert_29 : decode b_Cr_insert 29 = .ok (.iload_n 2, 1) := by decide +kernel
theorem d_Cr_insert_30 : decode b_Cr_insert 30 = .ok (.aload_n 0, 1) := by decide +kernel
theorem d_Cr_insert_31 : decode b_Cr_insert 31 = .ok (.getfield 9, 3) := by decide +kernel
theorem d_Cr_insert_34 : decode b_Cr_insert 34 = .ok (.iload_n 2, 1) := by decide +kernel
theorem d_Cr_insert_35 : decode b_Cr_insert 35 = .ok (.iconst 1, 1) := by decide +kernel
theorem d_Cr_insert_36 : decode b_Cr_insert 36 = .ok (.isub, 1) := by decide +kernel
theorem d_Cr_insert_37 : decode b_Cr_insert 37 = .ok (.iaload, 1) := by decide +kernel
theorem d_Cr_insert_38 : decode b_Cr_insert 38 = .ok (.iastore, 1) := by decide +kernel
theorem d_Cr_insert_39 : decode b_Cr_insert 39 = .ok (.iinc 2 (-1), 3) := by decide +kernel
theorem d_Cr_insert_42 : decode b_Cr_insert 42 = .ok (.goto (-37), 3) := by decide +kernel
theorem d_Cr_insert_45 : decode b_Cr_insert 45 = .ok (.aload_n 0, 1) := by decide +kernel
theorem d_Cr_insert_46 : decode b_Cr_insert 46 = .ok (.getfield 9, 3) := by decide +kernel
theorem d_Cr_insert_49 : decode b_Cr_insert 49 = .ok (.iload_n 2, 1) := by decide +kernel
theorem d_Cr_insert_50 : decode b_Cr_insert 50 = .ok (.iload_n 1, 1) := by decide +kernel
theorem d_Cr_insert_51 : decode b_Cr_insert 51 = .ok (.iastore, 1) := by decide +kernel
theorem d_Cr_insert_52 : decode b_Cr_insert 52 = .ok (.aload_n 0, 1) := by decide +kernel
theorem d_Cr_insert_53 : decode b_Cr_insert 53 = .ok (.dup, 1) := by decide +kernel
theorem d_Cr_insert_54 : decode b_Cr_insert 54 = .ok (.getfield 21, 3) := by decide +kernel
theorem d_Cr_insert_57 : decode b_Cr_insert 57 = .ok (.iconst 1, 1) := by decide +kernel
theorem d_Cr_insert_58 : decode b_Cr_insert 58 = .ok (.iadd, 1) := by decide +kernel
theorem d_Cr_insert_59 : decode b_Cr_insert 59 = .ok (.putfield 21, 3) := by decide +kernel
theorem d_Cr_insert_62 : decode b_Cr_insert 62 = .ok (.return_, 1) := by decide +kernel
theorem d_Cr_isCrossed_0 : decode b_Cr_isCrossed 0 = .ok (.aload_n 1, 1) := by decide +kernel
theorem d_Cr_isCrossed_1 : decode b_Cr_isCrossed 1 = .ok (.getfield 49, 3) := by decide +kernel
theorem d_Cr_isCrossed_4 : decode b_Cr_isCrossed 4 = .ok (.aload_n 1, 1) := by decide +kernel
theorem d_Cr_isCrossed_5 : decode b_Cr_isCrossed 5 = .ok (.getfield 52, 3) := by decide +kernel
theorem d_Cr_isCrossed_8 : decode b_Cr_isCrossed 8 = .ok (.iload_n 2, 1) := by decide +kernel
theorem d_Cr_isCrossed_9 : decode b_Cr_isCrossed 9 = .ok (.iaload, 1) := by decide +kernel
theorem d_Cr_isCrossed_10 : decode b_Cr_isCrossed 10 = .ok (.iaload, 1) := by decide +kernel
theorem d_Cr_isCrossed_11 : decode b_Cr_isCrossed 11 = .ok (.aload_n 3, 1) := by decide +kernel
theorem d_Cr_isCrossed_12 : decode b_Cr_isCrossed 12 = .ok (.getfield 55, 3) := by decide +kernel
theorem d_Cr_isCrossed_15 : decode b_Cr_isCrossed 15 = .ok (.isub, 1) := by decide +kernel
theorem d_Cr_isCrossed_16 : decode b_Cr_isCrossed 16 = .ok (.istore 6, 2) := by decide +kernel
theorem d_Cr_isCrossed_18 : decode b_Cr_isCrossed 18 = .ok (.aload_n 1, 1) := by decide +kernel
theorem d_Cr_isCrossed_19 : decode b_Cr_isCrossed 19 = .ok (.getfield 60, 3) := by decide +kernel
theorem d_Cr_isCrossed_22 : decode b_Cr_isCrossed 22 = .ok (.aload_n 1, 1) := by decide +kernel
theorem d_Cr_isCrossed_23 : decode b_Cr_isCrossed 23 = .ok (.getfield 52, 3) := by decide +kernel
theorem d_Cr_isCrossed_26 : decode b_Cr_isCrossed 26 = .ok (.iload_n 2, 1) := by decide +kernel
theorem d_Cr_isCrossed_27 : decode b_Cr_isCrossed 27 = .ok (.iaload, 1) := by decide +kernel
theorem d_Cr_isCrossed_28 : decode b_Cr_isCrossed 28 = .ok (.iaload, 1) := by decide +kernel
theorem d_Cr_isCrossed_29 : decode b_Cr_isCrossed 29 = .ok (.aload_n 3, 1) := by decide +kernel
theorem d_Cr_isCrossed_30 : decode b_Cr_isCrossed 30 = .ok (.getfield 63, 3) := by decide +kernel
theorem d_Cr_isCrossed_33 : decode b_Cr_isCrossed 33 = .ok (.isub, 1) := by decide +kernel
theorem d_Cr_isCrossed_34 : decode b_Cr_isCrossed 34 = .ok (.istore 7, 2) := by decide +kernel
theorem d_Cr_isCrossed_36 : decode b_Cr_isCrossed 36 = .ok (.aload_n 1, 1) := by decide +kernel
theorem d_Cr_isCrossed_37 : decode b_Cr_isCrossed 37 = .ok (.getfield 49, 3) := by decide +kernel
theorem d_Cr_isCrossed_40 : decode b_Cr_isCrossed 40 = .ok (.aload_n 1, 1) := by decide +kernel
theorem d_Cr_isCrossed_41 : decode b_Cr_isCrossed 41 = .ok (.getfield 66, 3) := by decide +kernel
theorem d_Cr_isCrossed_44 : decode b_Cr_isCrossed 44 = .ok (.iload_n 2, 1) := by decide +kernel
theorem d_Cr_isCrossed_45 : decode b_Cr_isCrossed 45 = .ok (.iaload, 1) := by decide +kernel
theorem d_Cr_isCrossed_46 : decode b_Cr_isCrossed 46 = .ok (.iaload, 1) := by decide +kernel
theorem d_Cr_isCrossed_47 : decode b_Cr_isCrossed 47 = .ok (.aload_n 3, 1) := by decide +kernel
theorem d_Cr_isCrossed_48 : decode b_Cr_isCrossed 48 = .ok (.getfield 55, 3) := by decide +kernel
theorem d_Cr_isCrossed_51 : decode b_Cr_isCrossed 51 = .ok (.isub, 1) := by decide +kernel
theorem d_Cr_isCrossed_52 : decode b_Cr_isCrossed 52 = .ok (.istore 8, 2) := by decide +kernel
theorem d_Cr_isCrossed_54 : decode b_Cr_isCrossed 54 = .ok (.aload_n 1, 1) := by decide +kernel
theorem d_Cr_isCrossed_55 : decode b_Cr_isCrossed 55 = .ok (.getfield 60, 3) := by decide +kernel
theorem d_Cr_isCrossed_58 : decode b_Cr_isCrossed 58 = .ok (.aload_n 1, 1) := by decide +kernel
theorem d_Cr_isCrossed_59 : decode b_Cr_isCrossed 59 = .ok (.getfield 66, 3) := by decide +kernel
theorem d_Cr_isCrossed_62 : decode b_Cr_isCrossed 62 = .ok (.iload_n 2, 1) := by decide +kernel
theorem d_Cr_isCrossed_63 : decode b_Cr_isCrossed 63 = .ok (.iaload, 1) := by decide +kernel
theorem d_Cr_isCrossed_64 : decode b_Cr_isCrossed 64 = .ok (.iaload, 1) := by decide +kernel
theorem d_Cr_isCrossed_65 : decode b_Cr_isCrossed 65 = .ok (.aload_n 3, 1) := by decide +kernel
theorem d_Cr_isCrossed_66 : decode b_Cr_isCrossed 66 = .ok (.getfield 63, 3) := by decide +kernel
theorem d_Cr_isCrossed_69 : decode b_Cr_isCrossed 69 = .ok (.isub, 1) := by decide +kernel
theorem d_Cr_isCrossed_70 : decode b_Cr_isCrossed 70 = .ok (.istore 9, 2) := by decide +kernel
theorem d_Cr_isCrossed_72 : decode b_Cr_isCrossed 72 = .ok (.iload 4, 2) := by decide +kernel
theorem d_Cr_isCrossed_74 : decode b_Cr_isCrossed 74 = .ok (.iload 5, 2) := by decide +kernel
theorem d_Cr_isCrossed_76 : decode b_Cr_isCrossed 76 = .ok (.iload 6, 2) := by decide +kernel
theorem d_Cr_isCrossed_78 : decode b_Cr_isCrossed 78 = .ok (.iload 7, 2) := by decide +kernel
theorem d_Cr_isCrossed_80 : decode b_Cr_isCrossed 80 = .ok (.invokestatic 69, 3) := by decide +kernel
theorem d_Cr_isCrossed_83 : decode b_Cr_isCrossed 83 = .ok (.istore 10, 2) := by decide +kernel
theorem d_Cr_isCrossed_85 : decode b_Cr_isCrossed 85 = .ok (.iload 4, 2) := by decide +kernel
theorem d_Cr_isCrossed_87 : decode b_Cr_isCrossed 87 = .ok (.iload 5, 2) := by decide +kernel
theorem d_Cr_isCrossed_89 : decode b_Cr_isCrossed 89 = .ok (.iload 8, 2) := by decide +kernel
theorem d_Cr_isCrossed_91 : decode b_Cr_isCrossed 91 = .ok (.iload 9, 2) := by decide +kernel
theorem d_Cr_isCrossed_93 : decode b_Cr_isCrossed 93 = .ok (.invokestatic 69, 3) := by decide +kernel
theorem d_Cr_isCrossed_96 : decode b_Cr_isCrossed 96 = .ok (.istore 11, 2) := by decide +kernel
theorem d_Cr_isCrossed_98 : decode b_Cr_isCrossed 98 = .ok (.iload 10, 2) := by decide +kernel
theorem d_Cr_isCrossed_100 : decode b_Cr_isCrossed 100 = .ok (.ifCond .ge 7, 3) := by decide +kernel
theorem d_Cr_isCrossed_103 : decode b_Cr_isCrossed 103 = .ok (.iconst 1, 1) := by decide +kernel
theorem d_Cr_isCrossed_104 : decode b_Cr_isCrossed 104 = .ok (.goto 4, 3) := by decide +kernel
theorem d_Cr_isCrossed_107 : decode b_Cr_isCrossed 107 = .ok (.iconst 0, 1) := by decide +kernel
theorem d_Cr_isCrossed_108 : decode b_Cr_isCrossed 108 = .ok (.iload 11, 2) := by decide +kernel
theorem d_Cr_isCrossed_110 : decode b_Cr_isCrossed 110 = .ok (.ifCond .ge 7, 3) := by decide +kernel
theorem d_Cr_isCrossed_113 : decode b_Cr_isCrossed 113 = .ok (.iconst 1, 1) := by decide +kernel
theorem d_Cr_isCrossed_114 : decode b_Cr_isCrossed 114 = .ok (.goto 4, 3) := by decide +kernel
theorem d_Cr_isCrossed_117 : decode b_Cr_isCrossed 117 = .ok (.iconst 0, 1) := by decide +kernel
theorem d_Cr_isCrossed_118 : decode b_Cr_isCrossed 118 = .ok (.if_icmp .ne 5, 3) := by decide +kernel
theorem d_Cr_isCrossed_121 : decode b_Cr_isCrossed 121 = .ok (.iconst 0, 1) := by decide +kernel
theorem d_Cr_isCrossed_122 : decode b_Cr_isCrossed 122 = .ok (.ireturn, 1) := by decide +kernel
theorem d_Cr_isCrossed_123 : decode b_Cr_isCrossed 123 = .ok (.aload_n 0, 1) := by decide +kernel
theorem d_Cr_isCrossed_124 : decode b_Cr_isCrossed 124 = .ok (.getfield 15, 3) := by decide +kernel
theorem d_Cr_isCrossed_127 : decode b_Cr_isCrossed 127 = .ok (.iload_n 2, 1) := by decide +kernel
theorem d_Cr_isCrossed_128 : decode b_Cr_isCrossed 128 = .ok (.iload 6, 2) := by decide +kernel
theorem d_Cr_isCrossed_130 : decode b_Cr_isCrossed 130 = .ok (.iload 7, 2) := by decide +kernel
theorem d_Cr_isCrossed_132 : decode b_Cr_isCrossed 132 = .ok (.iload 8, 2) := by decide +kernel
theorem d_Cr_isCrossed_134 : decode b_Cr_isCrossed 134 = .ok (.iload 6, 2) := by decide +kernel
theorem d_Cr_isCrossed_136 : decode b_Cr_isCrossed 136 = .ok (.isub, 1) := by decide +kernel
theorem d_Cr_isCrossed_137 : decode b_Cr_isCrossed 137 = .ok (.iload 9, 2) := by decide +kernel
theorem d_Cr_isCrossed_139 : decode b_Cr_isCrossed 139 = .ok (.iload 7, 2) := by decide +kernel
theorem d_Cr_isCrossed_141 : decode b_Cr_isCrossed 141 = .ok (.isub, 1) := by decide +kernel
theorem d_Cr_isCrossed_142 : decode b_Cr_isCrossed 142 = .ok (.invokestatic 69, 3) := by decide +kernel
theorem d_Cr_isCrossed_145 : decode b_Cr_isCrossed 145 = .ok (.iastore, 1) := by decide +kernel
theorem d_Cr_isCrossed_146 : decode b_Cr_isCrossed 146 = .ok (.aload_n 0, 1) := by decide +kernel
theorem d_Cr_isCrossed_147 : decode b_Cr_isCrossed 147 = .ok (.getfield 18, 3) := by decide +kernel
theorem d_Cr_isCrossed_150 : decode b_Cr_isCrossed 150 = .ok (.iload_n 2, 1) := by decide +kernel
theorem d_Cr_isCrossed_151 : decode b_Cr_isCrossed 151 = .ok (.iload 11, 2) := by decide +kernel
theorem d_Cr_isCrossed_153 : decode b_Cr_isCrossed 153 = .ok (.iload 10, 2) := by decide +kernel
theorem d_Cr_isCrossed_155 : decode b_Cr_isCrossed 155 = .ok (.isub, 1) := by decide +kernel
theorem d_Cr_isCrossed_156 : decode b_Cr_isCrossed 156 = .ok (.iastore, 1) := by decide +kernel
theorem d_Cr_isCrossed_157 : decode b_Cr_isCrossed 157 = .ok (.aload_n 0, 1) := by decide +kernel
theorem d_Cr_isCrossed_158 : decode b_Cr_isCrossed 158 = .ok (.getfield 15, 3) := by decide +kernel
theorem d_Cr_isCrossed_161 : decode b_Cr_isCrossed 161 = .ok (.iload_n 2, 1) := by decide +kernel
theorem d_Cr_isCrossed_162 : decode b_Cr_isCrossed 162 = .ok (.iaload, 1) := by decide +kernel
theorem d_Cr_isCrossed_163 : decode b_Cr_isCrossed 163 = .ok (.aload_n 0, 1) := by decide +kernel
theorem d_Cr_isCrossed_164 : decode b_Cr_isCrossed 164 = .ok (.getfield 18, 3) := by decide +kernel
theorem d_Cr_isCrossed_167 : decode b_Cr_isCrossed 167 = .ok (.iload_n 2, 1) := by decide +kernel
theorem d_Cr_isCrossed_168 : decode b_Cr_isCrossed 168 = .ok (.iaload, 1) := by decide +kernel
theorem d_Cr_isCrossed_169 : decode b_Cr_isCrossed 169 = .ok (.invokestatic 73, 3) := by decide +kernel
theorem d_Cr_isCrossed_172 : decode b_Cr_isCrossed 172 = .ok (.ireturn, 1) := by decide +kernel
theorem d_Cr_fill_0 : decode b_Cr_fill 0 = .ok (.iconst 0, 1) := by decide +kernel
theorem d_Cr_fill_1 : decode b_Cr_fill 1 = .ok (.istore 5, 2) := by decide +kernel
theorem d_Cr_fill_3 : decode b_Cr_fill 3 = .ok (.iload 5, 2) := by decide +kernel
theorem d_Cr_fill_5 : decode b_Cr_fill 5 = .ok (.aload_n 1, 1) := by decide +kernel
theorem d_Cr_fill_6 : decode b_Cr_fill 6 = .ok (.getfield 28, 3) := by decide +kernel
theorem d_Cr_fill_9 : decode b_Cr_fill 9 = .ok (.if_icmp .ge 29, 3) := by decide +kernel
theorem d_Cr_fill_12 : decode b_Cr_fill 12 = .ok (.aload_n 0, 1) := by decide +kernel
theorem d_Cr_fill_13 : decode b_Cr_fill 13 = .ok (.aload_n 1, 1) := by decide +kernel
theorem d_Cr_fill_14 : decode b_Cr_fill 14 = .ok (.iload 5, 2) := by decide +kernel
theorem d_Cr_fill_16 : decode b_Cr_fill 16 = .ok (.aload_n 2, 1) := by decide +kernel
theorem d_Cr_fill_17 : decode b_Cr_fill 17 = .ok (.iload_n 3, 1) := by decide +kernel
theorem d_Cr_fill_18 : decode b_Cr_fill 18 = .ok (.iload 4, 2) := by decide +kernel
theorem d_Cr_fill_20 : decode b_Cr_fill 20 = .ok (.invokevirtual 33, 3) := by decide +kernel
theorem d_Cr_fill_23 : decode b_Cr_fill 23 = .ok (.ifCond .eq 9, 3) := by decide +kernel
theorem d_Cr_fill_26 : decode b_Cr_fill 26 = .ok (.aload_n 0, 1) := by decide +kernel
theorem d_Cr_fill_27 : decode b_Cr_fill 27 = .ok (.iload 5, 2) := by decide +kernel
theorem d_Cr_fill_29 : decode b_Cr_fill 29 = .ok (.invokevirtual 37, 3) := by decide +kernel
theorem d_Cr_fill_32 : decode b_Cr_fill 32 = .ok (.iinc 5 1, 3) := by decide +kernel
theorem d_Cr_fill_35 : decode b_Cr_fill 35 = .ok (.goto (-32), 3) := by decide +kernel
theorem d_Cr_fill_38 : decode b_Cr_fill 38 = .ok (.iconst 0, 1) := by decide +kernel
theorem d_Cr_fill_39 : decode b_Cr_fill 39 = .ok (.istore 5, 2) := by decide +kernel
theorem d_Cr_fill_41 : decode b_Cr_fill 41 = .ok (.iload 5, 2) := by decide +kernel
theorem d_Cr_fill_43 : decode b_Cr_fill 43 = .ok (.aload_n 0, 1) := by decide +kernel
theorem d_Cr_fill_44 : decode b_Cr_fill 44 = .ok (.getfield 21, 3) := by decide +kernel
theorem d_Cr_fill_47 : decode b_Cr_fill 47 = .ok (.if_icmp .ge 53, 3) := by decide +kernel
theorem d_Cr_fill_50 : decode b_Cr_fill 50 = .ok (.aload_n 0, 1) := by decide +kernel
theorem d_Cr_fill_51 : decode b_Cr_fill 51 = .ok (.getfield 25, 3) := by decide +kernel
theorem d_Cr_fill_54 : decode b_Cr_fill 54 = .ok (.iconst (-1), 1) := by decide +kernel
theorem d_Cr_fill_55 : decode b_Cr_fill 55 = .ok (.if_icmp .ne 45, 3) := by decide +kernel
theorem d_Cr_fill_58 : decode b_Cr_fill 58 = .ok (.aload_n 1, 1) := by decide +kernel
theorem d_Cr_fill_59 : decode b_Cr_fill 59 = .ok (.aload_n 0, 1) := by decide +kernel
theorem d_Cr_fill_60 : decode b_Cr_fill 60 = .ok (.getfield 9, 3) := by decide +kernel
theorem d_Cr_fill_63 : decode b_Cr_fill 63 = .ok (.iload 5, 2) := by decide +kernel
theorem d_Cr_fill_65 : decode b_Cr_fill 65 = .ok (.iaload, 1) := by decide +kernel
theorem d_Cr_fill_66 : decode b_Cr_fill 66 = .ok (.aload_n 0, 1) := by decide +kernel
theorem d_Cr_fill_67 : decode b_Cr_fill 67 = .ok (.aload_n 0, 1) := by decide +kernel
theorem d_Cr_fill_68 : decode b_Cr_fill 68 = .ok (.getfield 9, 3) := by decide +kernel
theorem d_Cr_fill_71 : decode b_Cr_fill 71 = .ok (.iload 5, 2) := by decide +kernel
theorem d_Cr_fill_73 : decode b_Cr_fill 73 = .ok (.iaload, 1) := by decide +kernel
theorem d_Cr_fill_74 : decode b_Cr_fill 74 = .ok (.invokevirtual 41, 3) := by decide +kernel
theorem d_Cr_fill_77 : decode b_Cr_fill 77 = .ok (.invokevirtual 45, 3) := by decide +kernel
theorem d_Cr_fill_80 : decode b_Cr_fill 80 = .ok (.ifCond .eq 14, 3) := by decide +kernel
theorem d_Cr_fill_83 : decode b_Cr_fill 83 = .ok (.aload_n 0, 1) := by decide +kernel
theorem d_Cr_fill_84 : decode b_Cr_fill 84 = .ok (.aload_n 0, 1) := by decide +kernel
theorem d_Cr_fill_85 : decode b_Cr_fill 85 = .ok (.getfield 9, 3) := by decide +kernel
theorem d_Cr_fill_88 : decode b_Cr_fill 88 = .ok (.iload 5, 2) := by decide +kernel
theorem d_Cr_fill_90 : decode b_Cr_fill 90 = .ok (.iaload, 1) := by decide +kernel
theorem d_Cr_fill_91 : decode b_Cr_fill 91 = .ok (.putfield 25, 3) := by decide +kernel
theorem d_Cr_fill_94 : decode b_Cr_fill 94 = .ok (.iinc 5 1, 3) := by decide +kernel
theorem d_Cr_fill_97 : decode b_Cr_fill 97 = .ok (.goto (-56), 3) := by decide +kernel
theorem d_Cr_fill_100 : decode b_Cr_fill 100 = .ok (.return_, 1) := by decide +kernel
theorem d_St_init_0 : decode b_St_init 0 = .ok (.aload_n 0, 1) := by decide +kernel
theorem d_St_init_1 : decode b_St_init 1 = .ok (.invokespecial 1, 3) := by decide +kernel
theorem d_St_init_4 : decode b_St_init 4 = .ok (.return_, 1) := by decide +kernel
theorem d_Ta_init_0 : decode b_Ta_init 0 = .ok (.aload_n 0, 1) := by decide +kernel
theorem d_Ta_init_1 : decode b_Ta_init 1 = .ok (.invokespecial 3, 3) := by decide +kernel
theorem d_Ta_init_4 : decode b_Ta_init 4 = .ok (.aload_n 0, 1) := by decide +kernel
theorem d_Ta_init_5 : decode b_Ta_init 5 = .ok (.sipush 256, 3) := by decide +kernel
theorem d_Ta_init_8 : decode b_Ta_init 8 = .ok (.newarray .int, 2) := by decide +kernel
theorem d_Ta_init_10 : decode b_Ta_init 10 = .ok (.putfield 9, 3) := by decide +kernel
theorem d_Ta_init_13 : decode b_Ta_init 13 = .ok (.aload_n 0, 1) := by decide +kernel
theorem d_Ta_init_14 : decode b_Ta_init 14 = .ok (.sipush 256, 3) := by decide +kernel
theorem d_Ta_init_17 : decode b_Ta_init 17 = .ok (.newarray .int, 2) := by decide +kernel
theorem d_Ta_init_19 : decode b_Ta_init 19 = .ok (.putfield 15, 3) := by decide +kernel
theorem d_Ta_init_22 : decode b_Ta_init 22 = .ok (.aload_n 0, 1) := by decide +kernel
theorem d_Ta_init_23 : decode b_Ta_init 23 = .ok (.sipush 256, 3) := by decide +kernel
theorem d_Ta_init_26 : decode b_Ta_init 26 = .ok (.newarray .int, 2) := by decide +kernel
theorem d_Ta_init_28 : decode b_Ta_init 28 = .ok (.putfield 18, 3) := by decide +kernel
theorem d_Ta_init_31 : decode b_Ta_init 31 = .ok (.return_, 1) := by decide +kernel
theorem d_Cr_init_0 : decode b_Cr_init 0 = .ok (.aload_n 0, 1) := by decide +kernel
theorem d_Cr_init_1 : decode b_Cr_init 1 = .ok (.invokespecial 3, 3) := by decide +kernel
theorem d_Cr_init_4 : decode b_Cr_init 4 = .ok (.aload_n 0, 1) := by decide +kernel
theorem d_Cr_init_5 : decode b_Cr_init 5 = .ok (.bipush 64, 2) := by decide +kernel
theorem d_Cr_init_7 : decode b_Cr_init 7 = .ok (.newarray .int, 2) := by decide +kernel
theorem d_Cr_init_9 : decode b_Cr_init 9 = .ok (.putfield 9, 3) := by decide +kernel
theorem d_Cr_init_12 : decode b_Cr_init 12 = .ok (.aload_n 0, 1) := by decide +kernel
theorem d_Cr_init_13 : decode b_Cr_init 13 = .ok (.bipush 64, 2) := by decide +kernel
theorem d_Cr_init_15 : decode b_Cr_init 15 = .ok (.newarray .int, 2) := by decide +kernel
theorem d_Cr_init_17 : decode b_Cr_init 17 = .ok (.putfield 15, 3) := by decide +kernel
theorem d_Cr_init_20 : decode b_Cr_init 20 = .ok (.aload_n 0, 1) := by decide +kernel
theorem d_Cr_init_21 : decode b_Cr_init 21 = .ok (.bipush 64, 2) := by decide +kernel
theorem d_Cr_init_23 : decode b_Cr_init 23 = .ok (.newarray .int, 2) := by decide +kernel
theorem d_Cr_init_25 : decode b_Cr_init 25 = .ok (.putfield 18, 3) := by decide +kernel
theorem d_Cr_init_28 : decode b_Cr_init 28 = .ok (.aload_n 0, 1) := by decide +kernel
theorem d_Cr_init_29 : decode b_Cr_init 29 = .ok (.iconst 0, 1) := by decide +kernel
theorem d_Cr_init_30 : decode b_Cr_init 30 = .ok (.putfield 21, 3) := by decide +kernel
theorem d_Cr_init_33 : decode b_Cr_init 33 = .ok (.aload_n 0, 1) := by decide +kernel
theorem d_Cr_init_34 : decode b_Cr_init 34 = .ok (.iconst (-1), 1) := by decide +kernel
theorem d_Cr_init_35 : decode b_Cr_init 35 = .ok (.putfield 25, 3) := by decide +kernel
theorem d_Cr_init_38 : decode b_Cr_init 38 = .ok (.return_, 1) := by decide +kernel
theorem d_Pl_init_0 : decode b_Pl_init 0 = .ok (.aload_n 0, 1) := by decide +kernel
theorem d_Pl_init_1 : decode b_Pl_init 1 = .ok (.invokespecial 3, 3) := by decide +kernel
theorem d_Pl_init_4 : decode b_Pl_init 4 = .ok (.aload_n 0, 1) := by decide +kernel
theorem d_Pl_init_5 : decode b_Pl_init 5 = .ok (.bipush 64, 2) := by decide +kernel
theorem d_Pl_init_7 : decode b_Pl_init 7 = .ok (.newarray .int, 2) := by decide +kernel
theorem d_Pl_init_9 : decode b_Pl_init 9 = .ok (.putfield 9, 3) := by decide +kernel
theorem d_Pl_init_12 : decode b_Pl_init 12 = .ok (.aload_n 0, 1) := by decide +kernel
theorem d_Pl_init_13 : decode b_Pl_init 13 = .ok (.bipush 64, 2) := by decide +kernel
theorem d_Pl_init_15 : decode b_Pl_init 15 = .ok (.newarray .int, 2) := by decide +kernel
theorem d_Pl_init_17 : decode b_Pl_init 17 = .ok (.putfield 15, 3) := by decide +kernel
theorem d_Pl_init_20 : decode b_Pl_init 20 = .ok (.aload_n 0, 1) := by decide +kernel
theorem d_Pl_init_21 : decode b_Pl_init 21 = .ok (.bipush 16, 2) := by decide +kernel
theorem d_Pl_init_23 : decode b_Pl_init 23 = .ok (.newarray .int, 2) := by decide +kernel
theorem d_Pl_init_25 : decode b_Pl_init 25 = .ok (.putfield 18, 3) := by decide +kernel
theorem d_Pl_init_28 : decode b_Pl_init 28 = .ok (.aload_n 0, 1) := by decide +kernel
theorem d_Pl_init_29 : decode b_Pl_init 29 = .ok (.bipush 16, 2) := by decide +kernel
theorem d_Pl_init_31 : decode b_Pl_init 31 = .ok (.newarray .int, 2) := by decide +kernel
theorem d_Pl_init_33 : decode b_Pl_init 33 = .ok (.putfield 21, 3) := by decide +kernel
theorem d_Pl_init_36 : decode b_Pl_init 36 = .ok (.aload_n 0, 1) := by decide +kernel
theorem d_Pl_init_37 : decode b_Pl_init 37 = .ok (.bipush 64, 2) := by decide +kernel
theorem d_Pl_init_39 : decode b_Pl_init 39 = .ok (.newarray .int, 2) := by decide +kernel
theorem d_Pl_init_41 : decode b_Pl_init 41 = .ok (.putfield 24, 3) := by decide +kernel
theorem d_Pl_init_44 : decode b_Pl_init 44 = .ok (.aload_n 0, 1) := by decide +kernel
theorem d_Pl_init_45 : decode b_Pl_init 45 = .ok (.bipush 64, 2) := by decide +kernel
theorem d_Pl_init_47 : decode b_Pl_init 47 = .ok (.newarray .int, 2) := by decide +kernel
theorem d_Pl_init_49 : decode b_Pl_init 49 = .ok (.putfield 27, 3) := by decide +kernel
theorem d_Pl_init_52 : decode b_Pl_init 52 = .ok (.aload_n 0, 1) := by decide +kernel
theorem d_Pl_init_53 : decode b_Pl_init 53 = .ok (.bipush 64, 2) := by decide +kernel
theorem d_Pl_init_55 : decode b_Pl_init 55 = .ok (.newarray .int, 2) := by decide +kernel
theorem d_Pl_init_57 : decode b_Pl_init 57 = .ok (.putfield 30, 3) := by decide +kernel
theorem d_Pl_init_60 : decode b_Pl_init 60 = .ok (.aload_n 0, 1) := by decide +kernel
theorem d_Pl_init_61 : decode b_Pl_init 61 = .ok (.bipush 64, 2) := by decide +kernel
theorem d_Pl_init_63 : decode b_Pl_init 63 = .ok (.newarray .int, 2) := by decide +kernel
theorem d_Pl_init_65 : decode b_Pl_init 65 = .ok (.putfield 33, 3) := by decide +kernel
theorem d_Pl_init_68 : decode b_Pl_init 68 = .ok (.return_, 1) := by decide +kernel
theorem d_SW_init_0 : decode b_SW_init 0 = .ok (.aload_n 0, 1) := by decide +kernel
theorem d_SW_init_1 : decode b_SW_init 1 = .ok (.invokespecial 1, 3) := by decide +kernel
theorem d_SW_init_4 : decode b_SW_init 4 = .ok (.aload_n 0, 1) := by decide +kernel
theorem d_SW_init_5 : decode b_SW_init 5 = .ok (.new 7, 3) := by decide +kernel
theorem d_SW_init_8 : decode b_SW_init 8 = .ok (.dup, 1) := by decide +kernel
theorem d_SW_init_9 : decode b_SW_init 9 = .ok (.invokespecial 9, 3) := by decide +kernel
theorem d_SW_init_12 : decode b_SW_init 12 = .ok (.putfield 10, 3) := by decide +kernel
theorem d_SW_init_15 : decode b_SW_init 15 = .ok (.aload_n 0, 1) := by decide +kernel
theorem d_SW_init_16 : decode b_SW_init 16 = .ok (.new 7, 3) := by decide +kernel
theorem d_SW_init_19 : decode b_SW_init 19 = .ok (.dup, 1) := by decide +kernel
theorem d_SW_init_20 : decode b_SW_init 20 = .ok (.invokespecial 9, 3) := by decide +kernel
theorem d_SW_init_23 : decode b_SW_init 23 = .ok (.putfield 16, 3) := by decide +kernel
theorem d_SW_init_26 : decode b_SW_init 26 = .ok (.aload_n 0, 1) := by decide +kernel
theorem d_SW_init_27 : decode b_SW_init 27 = .ok (.new 19, 3) := by decide +kernel
theorem d_SW_init_30 : decode b_SW_init 30 = .ok (.dup, 1) := by decide +kernel
theorem d_SW_init_31 : decode b_SW_init 31 = .ok (.invokespecial 21, 3) := by decide +kernel
theorem d_SW_init_34 : decode b_SW_init 34 = .ok (.putfield 22, 3) := by decide +kernel
theorem d_SW_init_37 : decode b_SW_init 37 = .ok (.aload_n 0, 1) := by decide +kernel
theorem d_SW_init_38 : decode b_SW_init 38 = .ok (.new 26, 3) := by decide +kernel
theorem d_SW_init_41 : decode b_SW_init 41 = .ok (.dup, 1) := by decide +kernel
theorem d_SW_init_42 : decode b_SW_init 42 = .ok (.invokespecial 28, 3) := by decide +kernel
theorem d_SW_init_45 : decode b_SW_init 45 = .ok (.putfield 29, 3) := by decide +kernel
theorem d_SW_init_48 : decode b_SW_init 48 = .ok (.aload_n 0, 1) := by decide +kernel
theorem d_SW_init_49 : decode b_SW_init 49 = .ok (.new 26, 3) := by decide +kernel
theorem d_SW_init_52 : decode b_SW_init 52 = .ok (.dup, 1) := by decide +kernel
theorem d_SW_init_53 : decode b_SW_init 53 = .ok (.invokespecial 28, 3) := by decide +kernel
theorem d_SW_init_56 : decode b_SW_init 56 = .ok (.putfield 33, 3) := by decide +kernel
theorem d_SW_init_59 : decode b_SW_init 59 = .ok (.aload_n 0, 1) := by decide +kernel
theorem d_SW_init_60 : decode b_SW_init 60 = .ok (.new 36, 3) := by decide +kernel
theorem d_SW_init_63 : decode b_SW_init 63 = .ok (.dup, 1) := by decide +kernel
theorem d_SW_init_64 : decode b_SW_init 64 = .ok (.invokespecial 38, 3) := by decide +kernel
theorem d_SW_init_67 : decode b_SW_init 67 = .ok (.putfield 39, 3) := by decide +kernel
theorem d_SW_init_70 : decode b_SW_init 70 = .ok (.aload_n 0, 1) := by decide +kernel
theorem d_SW_init_71 : decode b_SW_init 71 = .ok (.iconst 0, 1) := by decide +kernel
theorem d_SW_init_72 : decode b_SW_init 72 = .ok (.putfield 43, 3) := by decide +kernel
theorem d_SW_init_75 : decode b_SW_init 75 = .ok (.aload_n 0, 1) := by decide +kernel
theorem d_SW_init_76 : decode b_SW_init 76 = .ok (.iconst 0, 1) := by decide +kernel
theorem d_SW_init_77 : decode b_SW_init 77 = .ok (.putfield 47, 3) := by decide +kernel
theorem d_SW_init_80 : decode b_SW_init 80 = .ok (.return_, 1) := by decide +kernel
theorem d_SW_vertex_0 : decode b_SW_vertex 0 = .ok (.iload_n 1, 1) := by decide +kernel
theorem d_SW_vertex_1 : decode b_SW_vertex 1 = .ok (.sipush 2000, 3) := by decide +kernel
theorem d_SW_vertex_4 : decode b_SW_vertex 4 = .ok (.invokestatic 51, 3) := by decide +kernel
theorem d_SW_vertex_7 : decode b_SW_vertex 7 = .ok (.ifCond .eq 13, 3) := by decide +kernel
theorem d_SW_vertex_10 : decode b_SW_vertex 10 = .ok (.iload_n 2, 1) := by decide +kernel
theorem d_SW_vertex_11 : decode b_SW_vertex 11 = .ok (.sipush 2000, 3) := by decide +kernel
theorem d_SW_vertex_14 : decode b_SW_vertex 14 = .ok (.invokestatic 51, 3) := by decide +kernel
theorem d_SW_vertex_17 : decode b_SW_vertex 17 = .ok (.ifCond .ne 5, 3) := by decide +kernel
theorem d_SW_vertex_20 : decode b_SW_vertex 20 = .ok (.iconst (-1), 1) := by decide +kernel
theorem d_SW_vertex_21 : decode b_SW_vertex 21 = .ok (.ireturn, 1) := by decide +kernel
theorem d_SW_vertex_22 : decode b_SW_vertex 22 = .ok (.aload_n 0, 1) := by decide +kernel
theorem d_SW_vertex_23 : decode b_SW_vertex 23 = .ok (.getfield 10, 3) := by decide +kernel
theorem d_SW_vertex_26 : decode b_SW_vertex 26 = .ok (.iload_n 1, 1) := by decide +kernel
theorem d_SW_vertex_27 : decode b_SW_vertex 27 = .ok (.iload_n 2, 1) := by decide +kernel
theorem d_SW_vertex_28 : decode b_SW_vertex 28 = .ok (.invokevirtual 55, 3) := by decide +kernel
theorem d_SW_vertex_31 : decode b_SW_vertex 31 = .ok (.ireturn, 1) := by decide +kernel
theorem d_SW_sector_0 : decode b_SW_sector 0 = .ok (.iload_n 1, 1) := by decide +kernel
theorem d_SW_sector_1 : decode b_SW_sector 1 = .ok (.sipush 256, 3) := by decide +kernel
theorem d_SW_sector_4 : decode b_SW_sector 4 = .ok (.invokestatic 51, 3) := by decide +kernel
theorem d_SW_sector_7 : decode b_SW_sector 7 = .ok (.ifCond .eq 18, 3) := by decide +kernel
theorem d_SW_sector_10 : decode b_SW_sector 10 = .ok (.iload_n 2, 1) := by decide +kernel
theorem d_SW_sector_11 : decode b_SW_sector 11 = .ok (.sipush 256, 3) := by decide +kernel
theorem d_SW_sector_14 : decode b_SW_sector 14 = .ok (.invokestatic 51, 3) := by decide +kernel
theorem d_SW_sector_17 : decode b_SW_sector 17 = .ok (.ifCond .eq 8, 3) := by decide +kernel
theorem d_SW_sector_20 : decode b_SW_sector 20 = .ok (.iload_n 2, 1) := by decide +kernel
theorem d_SW_sector_21 : decode b_SW_sector 21 = .ok (.iload_n 1, 1) := by decide +kernel
theorem d_SW_sector_22 : decode b_SW_sector 22 = .ok (.if_icmp .gt 5, 3) := by decide +kernel
theorem d_SW_sector_25 : decode b_SW_sector 25 = .ok (.iconst (-1), 1) := by decide +kernel
theorem d_SW_sector_26 : decode b_SW_sector 26 = .ok (.ireturn, 1) := by decide +kernel
theorem d_SW_sector_27 : decode b_SW_sector 27 = .ok (.aload_n 0, 1) := by decide +kernel
theorem d_SW_sector_28 : decode b_SW_sector 28 = .ok (.getfield 10, 3) := by decide +kernel
theorem d_SW_sector_31 : decode b_SW_sector 31 = .ok (.iload_n 1, 1) := by decide +kernel
theorem d_SW_sector_32 : decode b_SW_sector 32 = .ok (.iload_n 2, 1) := by decide +kernel
theorem d_SW_sector_33 : decode b_SW_sector 33 = .ok (.invokevirtual 59, 3) := by decide +kernel
theorem d_SW_sector_36 : decode b_SW_sector 36 = .ok (.ireturn, 1) := by decide +kernel
theorem d_SW_wall_0 : decode b_SW_wall 0 = .ok (.aload_n 0, 1) := by decide +kernel
theorem d_SW_wall_1 : decode b_SW_wall 1 = .ok (.getfield 10, 3) := by decide +kernel
theorem d_SW_wall_4 : decode b_SW_wall 4 = .ok (.iload_n 1, 1) := by decide +kernel
theorem d_SW_wall_5 : decode b_SW_wall 5 = .ok (.invokevirtual 62, 3) := by decide +kernel
theorem d_SW_wall_8 : decode b_SW_wall 8 = .ok (.ifCond .eq 19, 3) := by decide +kernel
theorem d_SW_wall_11 : decode b_SW_wall 11 = .ok (.aload_n 0, 1) := by decide +kernel
theorem d_SW_wall_12 : decode b_SW_wall 12 = .ok (.getfield 10, 3) := by decide +kernel
theorem d_SW_wall_15 : decode b_SW_wall 15 = .ok (.iload_n 2, 1) := by decide +kernel
theorem d_SW_wall_16 : decode b_SW_wall 16 = .ok (.invokevirtual 62, 3) := by decide +kernel
theorem d_SW_wall_19 : decode b_SW_wall 19 = .ok (.ifCond .eq 8, 3) := by decide +kernel
theorem d_SW_wall_22 : decode b_SW_wall 22 = .ok (.iload_n 1, 1) := by decide +kernel
theorem d_SW_wall_23 : decode b_SW_wall 23 = .ok (.iload_n 2, 1) := by decide +kernel
theorem d_SW_wall_24 : decode b_SW_wall 24 = .ok (.if_icmp .ne 5, 3) := by decide +kernel
theorem d_SW_wall_27 : decode b_SW_wall 27 = .ok (.iconst (-1), 1) := by decide +kernel
theorem d_SW_wall_28 : decode b_SW_wall 28 = .ok (.ireturn, 1) := by decide +kernel
theorem d_SW_wall_29 : decode b_SW_wall 29 = .ok (.aload_n 0, 1) := by decide +kernel
theorem d_SW_wall_30 : decode b_SW_wall 30 = .ok (.getfield 10, 3) := by decide +kernel
theorem d_SW_wall_33 : decode b_SW_wall 33 = .ok (.iload_n 3, 1) := by decide +kernel
theorem d_SW_wall_34 : decode b_SW_wall 34 = .ok (.invokevirtual 66, 3) := by decide +kernel
theorem d_SW_wall_37 : decode b_SW_wall 37 = .ok (.ifCond .eq 21, 3) := by decide +kernel
theorem d_SW_wall_40 : decode b_SW_wall 40 = .ok (.iload 4, 2) := by decide +kernel
theorem d_SW_wall_42 : decode b_SW_wall 42 = .ok (.iconst (-1), 1) := by decide +kernel
theorem d_SW_wall_43 : decode b_SW_wall 43 = .ok (.if_icmp .eq 17, 3) := by decide +kernel
theorem d_SW_wall_46 : decode b_SW_wall 46 = .ok (.aload_n 0, 1) := by decide +kernel
theorem d_SW_wall_47 : decode b_SW_wall 47 = .ok (.getfield 10, 3) := by decide +kernel
theorem d_SW_wall_50 : decode b_SW_wall 50 = .ok (.iload 4, 2) := by decide +kernel
theorem d_SW_wall_52 : decode b_SW_wall 52 = .ok (.invokevirtual 66, 3) := by decide +kernel
theorem d_SW_wall_55 : decode b_SW_wall 55 = .ok (.ifCond .ne 5, 3) := by decide +kernel
theorem d_SW_wall_58 : decode b_SW_wall 58 = .ok (.iconst (-1), 1) := by decide +kernel
theorem d_SW_wall_59 : decode b_SW_wall 59 = .ok (.ireturn, 1) := by decide +kernel
theorem d_SW_wall_60 : decode b_SW_wall 60 = .ok (.aload_n 0, 1) := by decide +kernel
theorem d_SW_wall_61 : decode b_SW_wall 61 = .ok (.getfield 10, 3) := by decide +kernel
theorem d_SW_wall_64 : decode b_SW_wall 64 = .ok (.iload_n 1, 1) := by decide +kernel
theorem d_SW_wall_65 : decode b_SW_wall 65 = .ok (.iload_n 2, 1) := by decide +kernel
theorem d_SW_wall_66 : decode b_SW_wall 66 = .ok (.iload_n 3, 1) := by decide +kernel
theorem d_SW_wall_67 : decode b_SW_wall 67 = .ok (.iload 4, 2) := by decide +kernel
theorem d_SW_wall_69 : decode b_SW_wall 69 = .ok (.invokevirtual 69, 3) := by decide +kernel
theorem d_SW_wall_72 : decode b_SW_wall 72 = .ok (.ireturn, 1) := by decide +kernel
theorem d_SW_drop_0 : decode b_SW_drop 0 = .ok (.aload_n 0, 1) := by decide +kernel
theorem d_SW_drop_1 : decode b_SW_drop 1 = .ok (.getfield 10, 3) := by decide +kernel
theorem d_SW_drop_4 : decode b_SW_drop 4 = .ok (.invokevirtual 73, 3) := by decide +kernel
theorem d_SW_drop_7 : decode b_SW_drop 7 = .ok (.ireturn, 1) := by decide +kernel
theorem d_SW_clear_0 : decode b_SW_clear 0 = .ok (.aload_n 0, 1) := by decide +kernel
theorem d_SW_clear_1 : decode b_SW_clear 1 = .ok (.getfield 10, 3) := by decide +kernel
theorem d_SW_clear_4 : decode b_SW_clear 4 = .ok (.invokevirtual 77, 3) := by decide +kernel
theorem d_SW_clear_7 : decode b_SW_clear 7 = .ok (.return_, 1) := by decide +kernel
theorem d_SW_input_0 : decode b_SW_input 0 = .ok (.iload_n 1, 1) := by decide +kernel
theorem d_SW_input_1 : decode b_SW_input 1 = .ok (.iload_n 2, 1) := by decide +kernel
theorem d_SW_input_2 : decode b_SW_input 2 = .ok (.iload_n 3, 1) := by decide +kernel
theorem d_SW_input_3 : decode b_SW_input 3 = .ok (.invokestatic 109, 3) := by decide +kernel
theorem d_SW_input_6 : decode b_SW_input 6 = .ok (.ifCond .ne 5, 3) := by decide +kernel
theorem d_SW_input_9 : decode b_SW_input 9 = .ok (.iconst (-1), 1) := by decide +kernel
theorem d_SW_input_10 : decode b_SW_input 10 = .ok (.ireturn, 1) := by decide +kernel
theorem d_SW_input_11 : decode b_SW_input 11 = .ok (.aload_n 0, 1) := by decide +kernel
theorem d_SW_input_12 : decode b_SW_input 12 = .ok (.getfield 22, 3) := by decide +kernel
theorem d_SW_input_15 : decode b_SW_input 15 = .ok (.iload_n 1, 1) := by decide +kernel
theorem d_SW_input_16 : decode b_SW_input 16 = .ok (.iload_n 2, 1) := by decide +kernel
theorem d_SW_input_17 : decode b_SW_input 17 = .ok (.iload_n 3, 1) := by decide +kernel
theorem d_SW_input_18 : decode b_SW_input 18 = .ok (.invokevirtual 113, 3) := by decide +kernel
theorem d_SW_input_21 : decode b_SW_input 21 = .ok (.ireturn, 1) := by decide +kernel
theorem d_SW_undo_0 : decode b_SW_undo 0 = .ok (.aload_n 0, 1) := by decide +kernel
theorem d_SW_undo_1 : decode b_SW_undo 1 = .ok (.getfield 22, 3) := by decide +kernel
theorem d_SW_undo_4 : decode b_SW_undo 4 = .ok (.iload_n 1, 1) := by decide +kernel
theorem d_SW_undo_5 : decode b_SW_undo 5 = .ok (.invokevirtual 117, 3) := by decide +kernel
theorem d_SW_undo_8 : decode b_SW_undo 8 = .ok (.ireturn, 1) := by decide +kernel
theorem d_SW_crossed_0 : decode b_SW_crossed 0 = .ok (.iload_n 1, 1) := by decide +kernel
theorem d_SW_crossed_1 : decode b_SW_crossed 1 = .ok (.ifCond .lt 14, 3) := by decide +kernel
theorem d_SW_crossed_4 : decode b_SW_crossed 4 = .ok (.iload_n 1, 1) := by decide +kernel
theorem d_SW_crossed_5 : decode b_SW_crossed 5 = .ok (.aload_n 0, 1) := by decide +kernel
theorem d_SW_crossed_6 : decode b_SW_crossed 6 = .ok (.getfield 39, 3) := by decide +kernel
theorem d_SW_crossed_9 : decode b_SW_crossed 9 = .ok (.getfield 136, 3) := by decide +kernel
theorem d_SW_crossed_12 : decode b_SW_crossed 12 = .ok (.if_icmp .lt 5, 3) := by decide +kernel
theorem d_SW_crossed_15 : decode b_SW_crossed 15 = .ok (.iconst (-1), 1) := by decide +kernel
theorem d_SW_crossed_16 : decode b_SW_crossed 16 = .ok (.ireturn, 1) := by decide +kernel
theorem d_SW_crossed_17 : decode b_SW_crossed 17 = .ok (.aload_n 0, 1) := by decide +kernel
theorem d_SW_crossed_18 : decode b_SW_crossed 18 = .ok (.getfield 39, 3) := by decide +kernel
theorem d_SW_crossed_21 : decode b_SW_crossed 21 = .ok (.getfield 137, 3) := by decide +kernel
theorem d_SW_crossed_24 : decode b_SW_crossed 24 = .ok (.iload_n 1, 1) := by decide +kernel
theorem d_SW_crossed_25 : decode b_SW_crossed 25 = .ok (.iaload, 1) := by decide +kernel
theorem d_SW_crossed_26 : decode b_SW_crossed 26 = .ok (.ireturn, 1) := by decide +kernel
theorem d_SW_stopper_0 : decode b_SW_stopper 0 = .ok (.aload_n 0, 1) := by decide +kernel
theorem d_SW_stopper_1 : decode b_SW_stopper 1 = .ok (.getfield 39, 3) := by decide +kernel
theorem d_SW_stopper_4 : decode b_SW_stopper 4 = .ok (.getfield 140, 3) := by decide +kernel
theorem d_SW_stopper_7 : decode b_SW_stopper 7 = .ok (.ireturn, 1) := by decide +kernel
theorem d_SW_walker_0 : decode b_SW_walker 0 = .ok (.aload_n 0, 1) := by decide +kernel
theorem d_SW_walker_1 : decode b_SW_walker 1 = .ok (.getfield 47, 3) := by decide +kernel
theorem d_SW_walker_4 : decode b_SW_walker 4 = .ok (.ifCond .ne 6, 3) := by decide +kernel
theorem d_SW_walker_7 : decode b_SW_walker 7 = .ok (.ldc 143, 2) := by decide +kernel
theorem d_SW_walker_9 : decode b_SW_walker 9 = .ok (.ireturn, 1) := by decide +kernel
theorem d_SW_walker_10 : decode b_SW_walker 10 = .ok (.iload_n 1, 1) := by decide +kernel
theorem d_SW_walker_11 : decode b_SW_walker 11 = .ok (.tableswitch 61 0 3 #[29, 37, 45, 53], 29) := by decide +kernel
theorem d_SW_walker_40 : decode b_SW_walker 40 = .ok (.aload_n 0, 1) := by decide +kernel
theorem d_SW_walker_41 : decode b_SW_walker 41 = .ok (.getfield 33, 3) := by decide +kernel
theorem d_SW_walker_44 : decode b_SW_walker 44 = .ok (.getfield 94, 3) := by decide +kernel
theorem d_SW_walker_47 : decode b_SW_walker 47 = .ok (.ireturn, 1) := by decide +kernel
theorem d_SW_walker_48 : decode b_SW_walker 48 = .ok (.aload_n 0, 1) := by decide +kernel
theorem d_SW_walker_49 : decode b_SW_walker 49 = .ok (.getfield 33, 3) := by decide +kernel
theorem d_SW_walker_52 : decode b_SW_walker 52 = .ok (.getfield 97, 3) := by decide +kernel
theorem d_SW_walker_55 : decode b_SW_walker 55 = .ok (.ireturn, 1) := by decide +kernel
theorem d_SW_walker_56 : decode b_SW_walker 56 = .ok (.aload_n 0, 1) := by decide +kernel
theorem d_SW_walker_57 : decode b_SW_walker 57 = .ok (.getfield 33, 3) := by decide +kernel
theorem d_SW_walker_60 : decode b_SW_walker 60 = .ok (.getfield 100, 3) := by decide +kernel
theorem d_SW_walker_63 : decode b_SW_walker 63 = .ok (.ireturn, 1) := by decide +kernel
theorem d_SW_walker_64 : decode b_SW_walker 64 = .ok (.aload_n 0, 1) := by decide +kernel
theorem d_SW_walker_65 : decode b_SW_walker 65 = .ok (.getfield 33, 3) := by decide +kernel
theorem d_SW_walker_68 : decode b_SW_walker 68 = .ok (.getfield 103, 3) := by decide +kernel
theorem d_SW_walker_71 : decode b_SW_walker 71 = .ok (.ireturn, 1) := by decide +kernel
theorem d_SW_walker_72 : decode b_SW_walker 72 = .ok (.ldc 143, 2) := by decide +kernel
theorem d_SW_walker_74 : decode b_SW_walker 74 = .ok (.ireturn, 1) := by decide +kernel
theorem d_SW_look_0 : decode b_SW_look 0 = .ok (.iload_n 1, 1) := by decide +kernel
theorem d_SW_look_1 : decode b_SW_look 1 = .ok (.tableswitch 158 0 8 #[51, 59, 67, 75, 94, 113, 132, 140, 153], 51) := by decide +kernel
theorem d_SW_look_52 : decode b_SW_look 52 = .ok (.aload_n 0, 1) := by decide +kernel
theorem d_SW_look_53 : decode b_SW_look 53 = .ok (.getfield 10, 3) := by decide +kernel
theorem d_SW_look_56 : decode b_SW_look 56 = .ok (.getfield 144, 3) := by decide +kernel
theorem d_SW_look_59 : decode b_SW_look 59 = .ok (.ireturn, 1) := by decide +kernel
theorem d_SW_look_60 : decode b_SW_look 60 = .ok (.aload_n 0, 1) := by decide +kernel
theorem d_SW_look_61 : decode b_SW_look 61 = .ok (.getfield 10, 3) := by decide +kernel
theorem d_SW_look_64 : decode b_SW_look 64 = .ok (.getfield 147, 3) := by decide +kernel
theorem d_SW_look_67 : decode b_SW_look 67 = .ok (.ireturn, 1) := by decide +kernel
theorem d_SW_look_68 : decode b_SW_look 68 = .ok (.aload_n 0, 1) := by decide +kernel
theorem d_SW_look_69 : decode b_SW_look 69 = .ok (.getfield 10, 3) := by decide +kernel
theorem d_SW_look_72 : decode b_SW_look 72 = .ok (.getfield 150, 3) := by decide +kernel
theorem d_SW_look_75 : decode b_SW_look 75 = .ok (.ireturn, 1) := by decide +kernel
theorem d_SW_look_76 : decode b_SW_look 76 = .ok (.aload_n 0, 1) := by decide +kernel
theorem d_SW_look_77 : decode b_SW_look 77 = .ok (.getfield 43, 3) := by decide +kernel
theorem d_SW_look_80 : decode b_SW_look 80 = .ok (.ifCond .ne 7, 3) := by decide +kernel
theorem d_SW_look_83 : decode b_SW_look 83 = .ok (.iconst (-1), 1) := by decide +kernel
theorem d_SW_look_84 : decode b_SW_look 84 = .ok (.goto 10, 3) := by decide +kernel
theorem d_SW_look_87 : decode b_SW_look 87 = .ok (.aload_n 0, 1) := by decide +kernel
theorem d_SW_look_88 : decode b_SW_look 88 = .ok (.getfield 16, 3) := by decide +kernel
theorem d_SW_look_91 : decode b_SW_look 91 = .ok (.getfield 144, 3) := by decide +kernel
theorem d_SW_look_94 : decode b_SW_look 94 = .ok (.ireturn, 1) := by decide +kernel
theorem d_SW_look_95 : decode b_SW_look 95 = .ok (.aload_n 0, 1) := by decide +kernel
theorem d_SW_look_96 : decode b_SW_look 96 = .ok (.getfield 43, 3) := by decide +kernel
theorem d_SW_look_99 : decode b_SW_look 99 = .ok (.ifCond .ne 7, 3) := by decide +kernel
theorem d_SW_look_102 : decode b_SW_look 102 = .ok (.iconst (-1), 1) := by decide +kernel
theorem d_SW_look_103 : decode b_SW_look 103 = .ok (.goto 10, 3) := by decide +kernel
theorem d_SW_look_106 : decode b_SW_look 106 = .ok (.aload_n 0, 1) := by decide +kernel
theorem d_SW_look_107 : decode b_SW_look 107 = .ok (.getfield 16, 3) := by decide +kernel
theorem d_SW_look_110 : decode b_SW_look 110 = .ok (.getfield 147, 3) := by decide +kernel
theorem d_SW_look_113 : decode b_SW_look 113 = .ok (.ireturn, 1) := by decide +kernel
theorem d_SW_look_114 : decode b_SW_look 114 = .ok (.aload_n 0, 1) := by decide +kernel
theorem d_SW_look_115 : decode b_SW_look 115 = .ok (.getfield 43, 3) := by decide +kernel
theorem d_SW_look_118 : decode b_SW_look 118 = .ok (.ifCond .ne 7, 3) := by decide +kernel
theorem d_SW_look_121 : decode b_SW_look 121 = .ok (.iconst (-1), 1) := by decide +kernel
theorem d_SW_look_122 : decode b_SW_look 122 = .ok (.goto 10, 3) := by decide +kernel
theorem d_SW_look_125 : decode b_SW_look 125 = .ok (.aload_n 0, 1) := by decide +kernel
theorem d_SW_look_126 : decode b_SW_look 126 = .ok (.getfield 16, 3) := by decide +kernel
theorem d_SW_look_129 : decode b_SW_look 129 = .ok (.getfield 150, 3) := by decide +kernel
theorem d_SW_look_132 : decode b_SW_look 132 = .ok (.ireturn, 1) := by decide +kernel
theorem d_SW_look_133 : decode b_SW_look 133 = .ok (.aload_n 0, 1) := by decide +kernel
theorem d_SW_look_134 : decode b_SW_look 134 = .ok (.getfield 22, 3) := by decide +kernel
theorem d_SW_look_137 : decode b_SW_look 137 = .ok (.getfield 120, 3) := by decide +kernel
theorem d_SW_look_140 : decode b_SW_look 140 = .ok (.ireturn, 1) := by decide +kernel
theorem d_SW_look_141 : decode b_SW_look 141 = .ok (.aload_n 0, 1) := by decide +kernel
theorem d_SW_look_142 : decode b_SW_look 142 = .ok (.getfield 47, 3) := by decide +kernel
theorem d_SW_look_145 : decode b_SW_look 145 = .ok (.ifCond .eq 7, 3) := by decide +kernel
theorem d_SW_look_148 : decode b_SW_look 148 = .ok (.iconst 1, 1) := by decide +kernel
theorem d_SW_look_149 : decode b_SW_look 149 = .ok (.goto 4, 3) := by decide +kernel
theorem d_SW_look_152 : decode b_SW_look 152 = .ok (.iconst 0, 1) := by decide +kernel
theorem d_SW_look_153 : decode b_SW_look 153 = .ok (.ireturn, 1) := by decide +kernel
theorem d_SW_look_154 : decode b_SW_look 154 = .ok (.aload_n 0, 1) := by decide +kernel
theorem d_SW_look_155 : decode b_SW_look 155 = .ok (.getfield 43, 3) := by decide +kernel
theorem d_SW_look_158 : decode b_SW_look 158 = .ok (.ireturn, 1) := by decide +kernel
theorem d_SW_look_159 : decode b_SW_look 159 = .ok (.iconst (-1), 1) := by decide +kernel
theorem d_SW_look_160 : decode b_SW_look 160 = .ok (.ireturn, 1) := by decide +kernel
theorem d_SW_returnToOrigin_0 : decode b_SW_returnToOrigin 0 = .ok (.aload_n 0, 1) := by decide +kernel
theorem d_SW_returnToOrigin_1 : decode b_SW_returnToOrigin 1 = .ok (.getfield 33, 3) := by decide +kernel
theorem d_SW_returnToOrigin_4 : decode b_SW_returnToOrigin 4 = .ok (.aload_n 0, 1) := by decide +kernel
theorem d_SW_returnToOrigin_5 : decode b_SW_returnToOrigin 5 = .ok (.getfield 29, 3) := by decide +kernel
theorem d_SW_returnToOrigin_8 : decode b_SW_returnToOrigin 8 = .ok (.invokevirtual 153, 3) := by decide +kernel
theorem d_SW_returnToOrigin_11 : decode b_SW_returnToOrigin 11 = .ok (.aload_n 0, 1) := by decide +kernel
theorem d_SW_returnToOrigin_12 : decode b_SW_returnToOrigin 12 = .ok (.getfield 39, 3) := by decide +kernel
theorem d_SW_returnToOrigin_15 : decode b_SW_returnToOrigin 15 = .ok (.invokevirtual 88, 3) := by decide +kernel
theorem d_SW_returnToOrigin_18 : decode b_SW_returnToOrigin 18 = .ok (.return_, 1) := by decide +kernel
theorem d_SW_start_0 : decode b_SW_start 0 = .ok (.iload_n 1, 1) := by decide +kernel
theorem d_SW_start_1 : decode b_SW_start 1 = .ok (.iload_n 2, 1) := by decide +kernel
theorem d_SW_start_2 : decode b_SW_start 2 = .ok (.invokestatic 91, 3) := by decide +kernel
theorem d_SW_start_5 : decode b_SW_start 5 = .ok (.ifCond .eq 25, 3) := by decide +kernel
theorem d_SW_start_8 : decode b_SW_start 8 = .ok (.iload_n 3, 1) := by decide +kernel
theorem d_SW_start_9 : decode b_SW_start 9 = .ok (.ifCond .lt 21, 3) := by decide +kernel
theorem d_SW_start_12 : decode b_SW_start 12 = .ok (.iload_n 3, 1) := by decide +kernel
theorem d_SW_start_13 : decode b_SW_start 13 = .ok (.bipush 64, 2) := by decide +kernel
theorem d_SW_start_15 : decode b_SW_start 15 = .ok (.if_icmp .ge 15, 3) := by decide +kernel
theorem d_SW_start_18 : decode b_SW_start 18 = .ok (.aload_n 0, 1) := by decide +kernel
theorem d_SW_start_19 : decode b_SW_start 19 = .ok (.getfield 16, 3) := by decide +kernel
theorem d_SW_start_22 : decode b_SW_start 22 = .ok (.iload 4, 2) := by decide +kernel
theorem d_SW_start_24 : decode b_SW_start 24 = .ok (.invokevirtual 66, 3) := by decide +kernel
theorem d_SW_start_27 : decode b_SW_start 27 = .ok (.ifCond .ne 5, 3) := by decide +kernel
theorem d_SW_start_30 : decode b_SW_start 30 = .ok (.iconst 0, 1) := by decide +kernel
theorem d_SW_start_31 : decode b_SW_start 31 = .ok (.ireturn, 1) := by decide +kernel
theorem d_SW_start_32 : decode b_SW_start 32 = .ok (.aload_n 0, 1) := by decide +kernel
theorem d_SW_start_33 : decode b_SW_start 33 = .ok (.getfield 29, 3) := by decide +kernel
theorem d_SW_start_36 : decode b_SW_start 36 = .ok (.iload_n 1, 1) := by decide +kernel
theorem d_SW_start_37 : decode b_SW_start 37 = .ok (.putfield 94, 3) := by decide +kernel
theorem d_SW_start_40 : decode b_SW_start 40 = .ok (.aload_n 0, 1) := by decide +kernel
theorem d_SW_start_41 : decode b_SW_start 41 = .ok (.getfield 29, 3) := by decide +kernel
theorem d_SW_start_44 : decode b_SW_start 44 = .ok (.iload_n 2, 1) := by decide +kernel
theorem d_SW_start_45 : decode b_SW_start 45 = .ok (.putfield 97, 3) := by decide +kernel
theorem d_SW_start_48 : decode b_SW_start 48 = .ok (.aload_n 0, 1) := by decide +kernel
theorem d_SW_start_49 : decode b_SW_start 49 = .ok (.getfield 29, 3) := by decide +kernel
theorem d_SW_start_52 : decode b_SW_start 52 = .ok (.iload_n 3, 1) := by decide +kernel
theorem d_SW_start_53 : decode b_SW_start 53 = .ok (.putfield 100, 3) := by decide +kernel
theorem d_SW_start_56 : decode b_SW_start 56 = .ok (.aload_n 0, 1) := by decide +kernel
theorem d_SW_start_57 : decode b_SW_start 57 = .ok (.getfield 29, 3) := by decide +kernel
theorem d_SW_start_60 : decode b_SW_start 60 = .ok (.iload 4, 2) := by decide +kernel
theorem d_SW_start_62 : decode b_SW_start 62 = .ok (.putfield 103, 3) := by decide +kernel
theorem d_SW_start_65 : decode b_SW_start 65 = .ok (.aload_n 0, 1) := by decide +kernel
theorem d_SW_start_66 : decode b_SW_start 66 = .ok (.iconst 1, 1) := by decide +kernel
theorem d_SW_start_67 : decode b_SW_start 67 = .ok (.putfield 47, 3) := by decide +kernel
theorem d_SW_start_70 : decode b_SW_start 70 = .ok (.aload_n 0, 1) := by decide +kernel
theorem d_SW_start_71 : decode b_SW_start 71 = .ok (.invokevirtual 106, 3) := by decide +kernel
theorem d_SW_start_74 : decode b_SW_start 74 = .ok (.iconst 1, 1) := by decide +kernel
theorem d_SW_start_75 : decode b_SW_start 75 = .ok (.ireturn, 1) := by decide +kernel
theorem d_SW_build_0 : decode b_SW_build 0 = .ok (.aload_n 0, 1) := by decide +kernel
theorem d_SW_build_1 : decode b_SW_build 1 = .ok (.getfield 10, 3) := by decide +kernel
theorem d_SW_build_4 : decode b_SW_build 4 = .ok (.invokevirtual 80, 3) := by decide +kernel
theorem d_SW_build_7 : decode b_SW_build 7 = .ok (.istore_n 1, 1) := by decide +kernel
theorem d_SW_build_8 : decode b_SW_build 8 = .ok (.iload_n 1, 1) := by decide +kernel
theorem d_SW_build_9 : decode b_SW_build 9 = .ok (.iconst (-1), 1) := by decide +kernel
theorem d_SW_build_10 : decode b_SW_build 10 = .ok (.if_icmp .eq 5, 3) := by decide +kernel
theorem d_SW_build_13 : decode b_SW_build 13 = .ok (.iload_n 1, 1) := by decide +kernel
theorem d_SW_build_14 : decode b_SW_build 14 = .ok (.ireturn, 1) := by decide +kernel
theorem d_SW_build_15 : decode b_SW_build 15 = .ok (.aload_n 0, 1) := by decide +kernel
theorem d_SW_build_16 : decode b_SW_build 16 = .ok (.getfield 16, 3) := by decide +kernel
theorem d_SW_build_19 : decode b_SW_build 19 = .ok (.aload_n 0, 1) := by decide +kernel
theorem d_SW_build_20 : decode b_SW_build 20 = .ok (.getfield 10, 3) := by decide +kernel
theorem d_SW_build_23 : decode b_SW_build 23 = .ok (.invokevirtual 84, 3) := by decide +kernel
theorem d_SW_build_26 : decode b_SW_build 26 = .ok (.aload_n 0, 1) := by decide +kernel
theorem d_SW_build_27 : decode b_SW_build 27 = .ok (.dup, 1) := by decide +kernel
theorem d_SW_build_28 : decode b_SW_build 28 = .ok (.getfield 43, 3) := by decide +kernel
theorem d_SW_build_31 : decode b_SW_build 31 = .ok (.iconst 1, 1) := by decide +kernel
theorem d_SW_build_32 : decode b_SW_build 32 = .ok (.iadd, 1) := by decide +kernel
theorem d_SW_build_33 : decode b_SW_build 33 = .ok (.putfield 43, 3) := by decide +kernel
theorem d_SW_build_36 : decode b_SW_build 36 = .ok (.aload_n 0, 1) := by decide +kernel
theorem d_SW_build_37 : decode b_SW_build 37 = .ok (.iconst 0, 1) := by decide +kernel
theorem d_SW_build_38 : decode b_SW_build 38 = .ok (.putfield 47, 3) := by decide +kernel
theorem d_SW_build_41 : decode b_SW_build 41 = .ok (.aload_n 0, 1) := by decide +kernel
theorem d_SW_build_42 : decode b_SW_build 42 = .ok (.getfield 39, 3) := by decide +kernel
theorem d_SW_build_45 : decode b_SW_build 45 = .ok (.invokevirtual 88, 3) := by decide +kernel
theorem d_SW_build_48 : decode b_SW_build 48 = .ok (.iconst (-1), 1) := by decide +kernel
theorem d_SW_build_49 : decode b_SW_build 49 = .ok (.ireturn, 1) := by decide +kernel
theorem d_SW_walk_0 : decode b_SW_walk 0 = .ok (.aload_n 0, 1) := by decide +kernel
theorem d_SW_walk_1 : decode b_SW_walk 1 = .ok (.getfield 33, 3) := by decide +kernel
theorem d_SW_walk_4 : decode b_SW_walk 4 = .ok (.aload_n 0, 1) := by decide +kernel
theorem d_SW_walk_5 : decode b_SW_walk 5 = .ok (.getfield 33, 3) := by decide +kernel
theorem d_SW_walk_8 : decode b_SW_walk 8 = .ok (.getfield 100, 3) := by decide +kernel
theorem d_SW_walk_11 : decode b_SW_walk 11 = .ok (.iload_n 3, 1) := by decide +kernel
theorem d_SW_walk_12 : decode b_SW_walk 12 = .ok (.iadd, 1) := by decide +kernel
theorem d_SW_walk_13 : decode b_SW_walk 13 = .ok (.bipush 64, 2) := by decide +kernel
theorem d_SW_walk_15 : decode b_SW_walk 15 = .ok (.invokestatic 156, 3) := by decide +kernel
theorem d_SW_walk_18 : decode b_SW_walk 18 = .ok (.putfield 100, 3) := by decide +kernel
theorem d_SW_walk_21 : decode b_SW_walk 21 = .ok (.aload_n 0, 1) := by decide +kernel
theorem d_SW_walk_22 : decode b_SW_walk 22 = .ok (.getfield 33, 3) := by decide +kernel
theorem d_SW_walk_25 : decode b_SW_walk 25 = .ok (.getfield 100, 3) := by decide +kernel
theorem d_SW_walk_28 : decode b_SW_walk 28 = .ok (.invokestatic 161, 3) := by decide +kernel
theorem d_SW_walk_31 : decode b_SW_walk 31 = .ok (.istore 4, 2) := by decide +kernel
theorem d_SW_walk_33 : decode b_SW_walk 33 = .ok (.aload_n 0, 1) := by decide +kernel
theorem d_SW_walk_34 : decode b_SW_walk 34 = .ok (.getfield 33, 3) := by decide +kernel
theorem d_SW_walk_37 : decode b_SW_walk 37 = .ok (.getfield 100, 3) := by decide +kernel
theorem d_SW_walk_40 : decode b_SW_walk 40 = .ok (.bipush 16, 2) := by decide +kernel
theorem d_SW_walk_42 : decode b_SW_walk 42 = .ok (.isub, 1) := by decide +kernel
theorem d_SW_walk_43 : decode b_SW_walk 43 = .ok (.invokestatic 161, 3) := by decide +kernel
theorem d_SW_walk_46 : decode b_SW_walk 46 = .ok (.istore 5, 2) := by decide +kernel
theorem d_SW_walk_48 : decode b_SW_walk 48 = .ok (.iload 4, 2) := by decide +kernel
theorem d_SW_walk_50 : decode b_SW_walk 50 = .ok (.iload_n 1, 1) := by decide +kernel
theorem d_SW_walk_51 : decode b_SW_walk 51 = .ok (.imul, 1) := by decide +kernel
theorem d_SW_walk_52 : decode b_SW_walk 52 = .ok (.iload 5, 2) := by decide +kernel
theorem d_SW_walk_54 : decode b_SW_walk 54 = .ok (.iload_n 2, 1) := by decide +kernel
theorem d_SW_walk_55 : decode b_SW_walk 55 = .ok (.imul, 1) := by decide +kernel
theorem d_SW_walk_56 : decode b_SW_walk 56 = .ok (.iadd, 1) := by decide +kernel
theorem d_SW_walk_57 : decode b_SW_walk 57 = .ok (.sipush 256, 3) := by decide +kernel
theorem d_SW_walk_60 : decode b_SW_walk 60 = .ok (.invokestatic 165, 3) := by decide +kernel
theorem d_SW_walk_63 : decode b_SW_walk 63 = .ok (.istore 6, 2) := by decide +kernel
theorem d_SW_walk_65 : decode b_SW_walk 65 = .ok (.iload 5, 2) := by decide +kernel
theorem d_SW_walk_67 : decode b_SW_walk 67 = .ok (.iload_n 1, 1) := by decide +kernel
theorem d_SW_walk_68 : decode b_SW_walk 68 = .ok (.imul, 1) := by decide +kernel
theorem d_SW_walk_69 : decode b_SW_walk 69 = .ok (.iload 4, 2) := by decide +kernel
theorem d_SW_walk_71 : decode b_SW_walk 71 = .ok (.iload_n 2, 1) := by decide +kernel
theorem d_SW_walk_72 : decode b_SW_walk 72 = .ok (.imul, 1) := by decide +kernel
theorem d_SW_walk_73 : decode b_SW_walk 73 = .ok (.isub, 1) := by decide +kernel
theorem d_SW_walk_74 : decode b_SW_walk 74 = .ok (.sipush 256, 3) := by decide +kernel
theorem d_SW_walk_77 : decode b_SW_walk 77 = .ok (.invokestatic 165, 3) := by decide +kernel
theorem d_SW_walk_80 : decode b_SW_walk 80 = .ok (.istore 7, 2) := by decide +kernel
theorem d_SW_walk_82 : decode b_SW_walk 82 = .ok (.aload_n 0, 1) := by decide +kernel
theorem d_SW_walk_83 : decode b_SW_walk 83 = .ok (.getfield 39, 3) := by decide +kernel
theorem d_SW_walk_86 : decode b_SW_walk 86 = .ok (.invokevirtual 88, 3) := by decide +kernel
theorem d_SW_walk_89 : decode b_SW_walk 89 = .ok (.iload 6, 2) := by decide +kernel
theorem d_SW_walk_91 : decode b_SW_walk 91 = .ok (.ifCond .ne 10, 3) := by decide +kernel
theorem d_SW_walk_94 : decode b_SW_walk 94 = .ok (.iload 7, 2) := by decide +kernel
theorem d_SW_walk_96 : decode b_SW_walk 96 = .ok (.ifCond .ne 5, 3) := by decide +kernel
theorem d_SW_walk_99 : decode b_SW_walk 99 = .ok (.iconst 0, 1) := by decide +kernel
theorem d_SW_walk_100 : decode b_SW_walk 100 = .ok (.ireturn, 1) := by decide +kernel
theorem d_SW_walk_101 : decode b_SW_walk 101 = .ok (.aload_n 0, 1) := by decide +kernel
theorem d_SW_walk_102 : decode b_SW_walk 102 = .ok (.getfield 39, 3) := by decide +kernel
theorem d_SW_walk_105 : decode b_SW_walk 105 = .ok (.aload_n 0, 1) := by decide +kernel
theorem d_SW_walk_106 : decode b_SW_walk 106 = .ok (.getfield 16, 3) := by decide +kernel
theorem d_SW_walk_109 : decode b_SW_walk 109 = .ok (.aload_n 0, 1) := by decide +kernel
theorem d_SW_walk_110 : decode b_SW_walk 110 = .ok (.getfield 33, 3) := by decide +kernel
theorem d_SW_walk_113 : decode b_SW_walk 113 = .ok (.iload 6, 2) := by decide +kernel
theorem d_SW_walk_115 : decode b_SW_walk 115 = .ok (.iload 7, 2) := by decide +kernel
theorem d_SW_walk_117 : decode b_SW_walk 117 = .ok (.invokevirtual 168, 3) := by decide +kernel
theorem d_SW_walk_120 : decode b_SW_walk 120 = .ok (.aload_n 0, 1) := by decide +kernel
theorem d_SW_walk_121 : decode b_SW_walk 121 = .ok (.getfield 39, 3) := by decide +kernel
theorem d_SW_walk_124 : decode b_SW_walk 124 = .ok (.getfield 140, 3) := by decide +kernel
theorem d_SW_walk_127 : decode b_SW_walk 127 = .ok (.iconst (-1), 1) := by decide +kernel
theorem d_SW_walk_128 : decode b_SW_walk 128 = .ok (.if_icmp .ne 29, 3) := by decide +kernel
theorem d_SW_walk_131 : decode b_SW_walk 131 = .ok (.aload_n 0, 1) := by decide +kernel
theorem d_SW_walk_132 : decode b_SW_walk 132 = .ok (.getfield 33, 3) := by decide +kernel
theorem d_SW_walk_135 : decode b_SW_walk 135 = .ok (.getfield 94, 3) := by decide +kernel
theorem d_SW_walk_138 : decode b_SW_walk 138 = .ok (.iload 6, 2) := by decide +kernel
theorem d_SW_walk_140 : decode b_SW_walk 140 = .ok (.iadd, 1) := by decide +kernel
theorem d_SW_walk_141 : decode b_SW_walk 141 = .ok (.aload_n 0, 1) := by decide +kernel
theorem d_SW_walk_142 : decode b_SW_walk 142 = .ok (.getfield 33, 3) := by decide +kernel
theorem d_SW_walk_145 : decode b_SW_walk 145 = .ok (.getfield 97, 3) := by decide +kernel
theorem d_SW_walk_148 : decode b_SW_walk 148 = .ok (.iload 7, 2) := by decide +kernel
theorem d_SW_walk_150 : decode b_SW_walk 150 = .ok (.iadd, 1) := by decide +kernel
theorem d_SW_walk_151 : decode b_SW_walk 151 = .ok (.invokestatic 91, 3) := by decide +kernel
theorem d_SW_walk_154 : decode b_SW_walk 154 = .ok (.ifCond .ne 5, 3) := by decide +kernel
theorem d_SW_walk_157 : decode b_SW_walk 157 = .ok (.iconst 2, 1) := by decide +kernel
theorem d_SW_walk_158 : decode b_SW_walk 158 = .ok (.ireturn, 1) := by decide +kernel
theorem d_SW_walk_159 : decode b_SW_walk 159 = .ok (.aload_n 0, 1) := by decide +kernel
theorem d_SW_walk_160 : decode b_SW_walk 160 = .ok (.getfield 33, 3) := by decide +kernel
theorem d_SW_walk_163 : decode b_SW_walk 163 = .ok (.dup, 1) := by decide +kernel
theorem d_SW_walk_164 : decode b_SW_walk 164 = .ok (.getfield 94, 3) := by decide +kernel
theorem d_SW_walk_167 : decode b_SW_walk 167 = .ok (.iload 6, 2) := by decide +kernel
theorem d_SW_walk_169 : decode b_SW_walk 169 = .ok (.iadd, 1) := by decide +kernel
theorem d_SW_walk_170 : decode b_SW_walk 170 = .ok (.putfield 94, 3) := by decide +kernel
theorem d_SW_walk_173 : decode b_SW_walk 173 = .ok (.aload_n 0, 1) := by decide +kernel
theorem d_SW_walk_174 : decode b_SW_walk 174 = .ok (.getfield 33, 3) := by decide +kernel
theorem d_SW_walk_177 : decode b_SW_walk 177 = .ok (.dup, 1) := by decide +kernel
theorem d_SW_walk_178 : decode b_SW_walk 178 = .ok (.getfield 97, 3) := by decide +kernel
theorem d_SW_walk_181 : decode b_SW_walk 181 = .ok (.iload 7, 2) := by decide +kernel
theorem d_SW_walk_183 : decode b_SW_walk 183 = .ok (.iadd, 1) := by decide +kernel
theorem d_SW_walk_184 : decode b_SW_walk 184 = .ok (.putfield 97, 3) := by decide +kernel
theorem d_SW_walk_187 : decode b_SW_walk 187 = .ok (.aload_n 0, 1) := by decide +kernel
theorem d_SW_walk_188 : decode b_SW_walk 188 = .ok (.getfield 33, 3) := by decide +kernel
theorem d_SW_walk_191 : decode b_SW_walk 191 = .ok (.aload_n 0, 1) := by decide +kernel
theorem d_SW_walk_192 : decode b_SW_walk 192 = .ok (.getfield 39, 3) := by decide +kernel
theorem d_SW_walk_195 : decode b_SW_walk 195 = .ok (.aload_n 0, 1) := by decide +kernel
theorem d_SW_walk_196 : decode b_SW_walk 196 = .ok (.getfield 16, 3) := by decide +kernel
theorem d_SW_walk_199 : decode b_SW_walk 199 = .ok (.aload_n 0, 1) := by decide +kernel
theorem d_SW_walk_200 : decode b_SW_walk 200 = .ok (.getfield 33, 3) := by decide +kernel
theorem d_SW_walk_203 : decode b_SW_walk 203 = .ok (.getfield 103, 3) := by decide +kernel
theorem d_SW_walk_206 : decode b_SW_walk 206 = .ok (.invokevirtual 172, 3) := by decide +kernel
theorem d_SW_walk_209 : decode b_SW_walk 209 = .ok (.putfield 103, 3) := by decide +kernel
theorem d_SW_walk_212 : decode b_SW_walk 212 = .ok (.iconst 1, 1) := by decide +kernel
theorem d_SW_walk_213 : decode b_SW_walk 213 = .ok (.ireturn, 1) := by decide +kernel
theorem d_SW_step_0 : decode b_SW_step 0 = .ok (.aload_n 0, 1) := by decide +kernel
theorem d_SW_step_1 : decode b_SW_step 1 = .ok (.getfield 47, 3) := by decide +kernel
theorem d_SW_step_4 : decode b_SW_step 4 = .ok (.ifCond .eq 12, 3) := by decide +kernel
theorem d_SW_step_7 : decode b_SW_step 7 = .ok (.iload_n 1, 1) := by decide +kernel
theorem d_SW_step_8 : decode b_SW_step 8 = .ok (.iload_n 2, 1) := by decide +kernel
theorem d_SW_step_9 : decode b_SW_step 9 = .ok (.iload_n 3, 1) := by decide +kernel
theorem d_SW_step_10 : decode b_SW_step 10 = .ok (.invokestatic 109, 3) := by decide +kernel
theorem d_SW_step_13 : decode b_SW_step 13 = .ok (.ifCond .ne 5, 3) := by decide +kernel
theorem d_SW_step_16 : decode b_SW_step 16 = .ok (.iconst (-1), 1) := by decide +kernel
theorem d_SW_step_17 : decode b_SW_step 17 = .ok (.ireturn, 1) := by decide +kernel
theorem d_SW_step_18 : decode b_SW_step 18 = .ok (.aload_n 0, 1) := by decide +kernel
theorem d_SW_step_19 : decode b_SW_step 19 = .ok (.iload_n 1, 1) := by decide +kernel
theorem d_SW_step_20 : decode b_SW_step 20 = .ok (.iload_n 2, 1) := by decide +kernel
theorem d_SW_step_21 : decode b_SW_step 21 = .ok (.iload_n 3, 1) := by decide +kernel
theorem d_SW_step_22 : decode b_SW_step 22 = .ok (.invokevirtual 133, 3) := by decide +kernel
theorem d_SW_step_25 : decode b_SW_step 25 = .ok (.ireturn, 1) := by decide +kernel
theorem d_SW_play_0 : decode b_SW_play 0 = .ok (.aload_n 0, 1) := by decide +kernel
theorem d_SW_play_1 : decode b_SW_play 1 = .ok (.getfield 47, 3) := by decide +kernel
theorem d_SW_play_4 : decode b_SW_play 4 = .ok (.ifCond .eq 18, 3) := by decide +kernel
theorem d_SW_play_7 : decode b_SW_play 7 = .ok (.iload_n 1, 1) := by decide +kernel
theorem d_SW_play_8 : decode b_SW_play 8 = .ok (.ifCond .lt 14, 3) := by decide +kernel
theorem d_SW_play_11 : decode b_SW_play 11 = .ok (.iload_n 1, 1) := by decide +kernel
theorem d_SW_play_12 : decode b_SW_play 12 = .ok (.aload_n 0, 1) := by decide +kernel
theorem d_SW_play_13 : decode b_SW_play 13 = .ok (.getfield 22, 3) := by decide +kernel
theorem d_SW_play_16 : decode b_SW_play 16 = .ok (.getfield 120, 3) := by decide +kernel
theorem d_SW_play_19 : decode b_SW_play 19 = .ok (.if_icmp .le 5, 3) := by decide +kernel
theorem d_SW_play_22 : decode b_SW_play 22 = .ok (.iconst (-1), 1) := by decide +kernel
theorem d_SW_play_23 : decode b_SW_play 23 = .ok (.ireturn, 1) := by decide +kernel
theorem d_SW_play_24 : decode b_SW_play 24 = .ok (.aload_n 0, 1) := by decide +kernel
theorem d_SW_play_25 : decode b_SW_play 25 = .ok (.invokevirtual 106, 3) := by decide +kernel
theorem d_SW_play_28 : decode b_SW_play 28 = .ok (.iconst 0, 1) := by decide +kernel
theorem d_SW_play_29 : decode b_SW_play 29 = .ok (.istore_n 2, 1) := by decide +kernel
theorem d_SW_play_30 : decode b_SW_play 30 = .ok (.iconst 0, 1) := by decide +kernel
theorem d_SW_play_31 : decode b_SW_play 31 = .ok (.istore_n 3, 1) := by decide +kernel
theorem d_SW_play_32 : decode b_SW_play 32 = .ok (.iload_n 3, 1) := by decide +kernel
theorem d_SW_play_33 : decode b_SW_play 33 = .ok (.iload_n 1, 1) := by decide +kernel
theorem d_SW_play_34 : decode b_SW_play 34 = .ok (.if_icmp .ge 47, 3) := by decide +kernel
theorem d_SW_play_37 : decode b_SW_play 37 = .ok (.aload_n 0, 1) := by decide +kernel
theorem d_SW_play_38 : decode b_SW_play 38 = .ok (.aload_n 0, 1) := by decide +kernel
theorem d_SW_play_39 : decode b_SW_play 39 = .ok (.getfield 22, 3) := by decide +kernel
theorem d_SW_play_42 : decode b_SW_play 42 = .ok (.getfield 123, 3) := by decide +kernel
theorem d_SW_play_45 : decode b_SW_play 45 = .ok (.iload_n 3, 1) := by decide +kernel
theorem d_SW_play_46 : decode b_SW_play 46 = .ok (.iaload, 1) := by decide +kernel
theorem d_SW_play_47 : decode b_SW_play 47 = .ok (.aload_n 0, 1) := by decide +kernel
theorem d_SW_play_48 : decode b_SW_play 48 = .ok (.getfield 22, 3) := by decide +kernel
theorem d_SW_play_51 : decode b_SW_play 51 = .ok (.getfield 127, 3) := by decide +kernel
theorem d_SW_play_54 : decode b_SW_play 54 = .ok (.iload_n 3, 1) := by decide +kernel
theorem d_SW_play_55 : decode b_SW_play 55 = .ok (.iaload, 1) := by decide +kernel
theorem d_SW_play_56 : decode b_SW_play 56 = .ok (.aload_n 0, 1) := by decide +kernel
theorem d_SW_play_57 : decode b_SW_play 57 = .ok (.getfield 22, 3) := by decide +kernel
theorem d_SW_play_60 : decode b_SW_play 60 = .ok (.getfield 130, 3) := by decide +kernel
theorem d_SW_play_63 : decode b_SW_play 63 = .ok (.iload_n 3, 1) := by decide +kernel
theorem d_SW_play_64 : decode b_SW_play 64 = .ok (.iaload, 1) := by decide +kernel
theorem d_SW_play_65 : decode b_SW_play 65 = .ok (.invokevirtual 133, 3) := by decide +kernel
theorem d_SW_play_68 : decode b_SW_play 68 = .ok (.iconst 2, 1) := by decide +kernel
theorem d_SW_play_69 : decode b_SW_play 69 = .ok (.if_icmp .ne 6, 3) := by decide +kernel
theorem d_SW_play_72 : decode b_SW_play 72 = .ok (.iinc 2 1, 3) := by decide +kernel
theorem d_SW_play_75 : decode b_SW_play 75 = .ok (.iinc 3 1, 3) := by decide +kernel
theorem d_SW_play_78 : decode b_SW_play 78 = .ok (.goto (-46), 3) := by decide +kernel
theorem d_SW_play_81 : decode b_SW_play 81 = .ok (.iload_n 2, 1) := by decide +kernel
theorem d_SW_play_82 : decode b_SW_play 82 = .ok (.ireturn, 1) := by decide +kernel
end
section
/-! numbers and tables, without the machine -/
def sw_b (b : Bool) : Int32 := if b = true then 1 else 0
theorem sw_b0 {b : Bool} : sw_b b = 0 ↔ b = false := by
  cases b <;> simp [sw_b]
theorem sw_bn {b : Bool} : ¬ sw_b b = 0 ↔ b = true := by
  cases b <;> simp [sw_b]
theorem sw_bnar (b : Bool) : narrow .boolean (.int (sw_b b)) = .int (sw_b b) := by
  cases b <;> rfl
def sw_cosl : List Int32 := [256, 255, 251, 245, 237, 226, 213, 198, 181, 162, 142, 121, 98, 74, 50, 25, 0]
def sw_cos (j : Nat) : Int32 := sw_cosl.getD j 0
def sw_ok (x : Int32) (N : Nat) : Prop := x = nI x.toNatClampNeg ∧ x.toNatClampNeg ≤ N
theorem sw_nle {x i : Int32} {N k : Nat} (h : sw_ok x N) (hN : N < 2 ^ 31 := by decide) (hi : i = nI k) (hk : k ≤ x.toNatClampNeg) (hc : ¬ x ≤ i) : k < x.toNatClampNeg := by
  rcases Nat.lt_or_ge k x.toNatClampNeg with q | q
  · exact q
  · exfalso
    apply hc
    rw [h.1, hi]
    have := h.2
    exact nI_le q (by omega)
theorem sw_end {x i : Int32} {N k : Nat} (h : sw_ok x N) (hN : N < 2 ^ 31 := by decide) (hi : i = nI k) (hk : k ≤ x.toNatClampNeg) (hc : x ≤ i) : x.toNatClampNeg = k := by
  rcases Nat.lt_or_ge k x.toNatClampNeg with q | q
  · exfalso
    have h2 := h.2
    have h3 := nI_ge q (by omega)
    rw [← h.1, ← hi] at h3
    exact h3 hc
  · omega
def sw_wi (x k : Int32) : Bool := decide (¬ x < -k) && decide (¬ k < x)
def sw_hv (x n : Int32) : Bool := decide (¬ x < 0) && decide (¬ n ≤ x)
def sw_tk (vx vy : Nat → Int32) (x y : Int32) : Nat → Bool
  | 0 => false
  | k + 1 => sw_tk vx vy x y k || (decide (vx k = x) && decide (vy k = y))
theorem sw_tk_hit {vx vy : Nat → Int32} {x y : Int32} {k n : Nat} (h : k < n) (hx : vx k = x) (hy : vy k = y) : sw_tk vx vy x y n = true := by
  induction n with
  | zero => omega
  | succ n ih =>
    unfold sw_tk
    rcases Nat.lt_or_ge k n with q | q
    · rw [ih q]; rfl
    · rw [show n = k by omega, hx, hy]; simp
theorem sw_okin {x : Int32} {N : Nat} (h : sw_ok x N) (hc : ¬ nI N ≤ x) (hN : N < 2 ^ 31 := by decide) : vp_in x N := by
  rw [h.1]
  refine vp_in_nI ?_ hN
  rcases Nat.lt_or_ge x.toNatClampNeg N with q | q
  · exact q
  · exact absurd (by rw [h.1]; exact nI_le q (by have := h.2; omega)) hc
theorem sw_okin2 {x : Int32} {N : Nat} (h : sw_ok x N) (hc : x < nI N) (hN : N < 2 ^ 31 := by decide) : vp_in x N := by
  refine sw_okin h (fun q => ?_) hN
  rw [Int32.le_iff_toInt_le] at q
  rw [Int32.lt_iff_toInt_lt] at hc
  omega
def sw_mx (x y : Int32) : Int32 := if x < y then y else x
def sw_mn (x y : Int32) : Int32 := if y < x then y else x
def sw_ab (x : Int32) : Int32 := if 0 ≤ x then x else 0 - x
def sw_side (vx vy : Nat → Int32) (a b c : Nat) : Int32 := (vx b - vx a) * (vy c - vy a) - (vy b - vy a) * (vx c - vx a)
def sw_str (a b : Int32) : Bool := !(!(decide (a ≤ 0)) && decide (0 < b)) && !(!(decide (0 ≤ a)) && decide (b < 0))
def sw_la (vx vy : Nat → Int32) (a p q : Nat) : Bool :=
  decide ((vx p - vx a) * (vy q - vy a) - (vy p - vy a) * (vx q - vx a) = 0) && !(decide ((vx p - vx a) * (vx q - vx a) + (vy p - vy a) * (vy q - vy a) ≤ 0))
def sw_bm (f : Nat → Int32) (a b c d : Nat) : Bool :=
  !(decide (sw_mx (f a) (f b) < sw_mn (f c) (f d))) && !(decide (sw_mx (f c) (f d) < sw_mn (f a) (f b)))
def sw_cl4 (vx vy : Nat → Int32) (a b c d : Int32) : Bool :=
  if a = c then sw_la vx vy a.toNatClampNeg b.toNatClampNeg d.toNatClampNeg
  else if a = d then sw_la vx vy a.toNatClampNeg b.toNatClampNeg c.toNatClampNeg
  else if b = c then sw_la vx vy b.toNatClampNeg a.toNatClampNeg d.toNatClampNeg
  else if b = d then sw_la vx vy b.toNatClampNeg a.toNatClampNeg c.toNatClampNeg
  else sw_bm vx a.toNatClampNeg b.toNatClampNeg c.toNatClampNeg d.toNatClampNeg && sw_bm vy a.toNatClampNeg b.toNatClampNeg c.toNatClampNeg d.toNatClampNeg
    && sw_str (sw_side vx vy a.toNatClampNeg b.toNatClampNeg c.toNatClampNeg) (sw_side vx vy a.toNatClampNeg b.toNatClampNeg d.toNatClampNeg)
    && sw_str (sw_side vx vy c.toNatClampNeg d.toNatClampNeg a.toNatClampNeg) (sw_side vx vy c.toNatClampNeg d.toNatClampNeg b.toNatClampNeg)
def sw_clash (vx vy fa tb : Nat → Int32) (v w : Nat) : Bool := sw_cl4 vx vy (fa v) (tb v) (fa w) (tb w)
def sw_hit (C : Nat → Nat → Bool) (j : Nat) : Nat → Bool
  | 0 => false
  | k + 1 => sw_hit C j k || C k j
theorem sw_hit_at {C : Nat → Nat → Bool} {j k n : Nat} (h : k < n) (hc : C k j = true) : sw_hit C j n = true := by
  induction n with
  | zero => omega
  | succ n ih =>
    unfold sw_hit
    rcases Nat.lt_or_ge k n with q | q
    · rw [ih q]; rfl
    · rw [show n = k by omega, hc]; simp
def sw_fw (C : Nat → Nat → Bool) (n : Nat) (r : Int32) : Prop :=
  (r = -1 ∧ ∀ j, j < n → sw_hit C j j = false) ∨ ∃ j, j < n ∧ r = nI j ∧ sw_hit C j j = true ∧ ∀ i, i < j → sw_hit C i i = false
def sw_stf (fl ce : Nat → Int32) (near far : Int32) : Bool :=
  decide (24 < fl far.toNatClampNeg - fl near.toNatClampNeg) || !(decide (56 ≤ sw_mn (ce near.toNatClampNeg) (ce far.toNatClampNeg) - sw_mx (fl near.toNatClampNeg) (fl far.toNatClampNeg)))
def sw_stop (fl ce fr bk : Nat → Int32) (j : Nat) (ff : Bool) : Bool :=
  decide (bk j = -1) || (if ff = true then sw_stf fl ce (fr j) (bk j) else sw_stf fl ce (bk j) (fr j))
def sw_far (pp qq : Nat → Int32) (v w : Nat) : Bool :=
  !(decide (lg_cmp ((sw_ab (pp v)).toInt64 * (sw_ab (qq w)).toInt64) ((sw_ab (pp w)).toInt64 * (sw_ab (qq v)).toInt64) ≤ 0))
def sw_up1 (x y : Int32) : Bool := if y ≤ 0 then !(decide (0 ≤ x)) && !(decide (x < y)) else !(decide (x ≤ 0)) && !(decide (y < x))
def sw_insf (F : Int32 → Bool) (x : Int32) : Nat → (Nat → Int32) → (Nat → Int32)
  | 0, f => upd f 0 x
  | k + 1, f => if F (f k) = true then sw_insf F x k (upd f (k + 1) (f k)) else upd f (k + 1) x
theorem sw_nlt {x i : Int32} {N k : Nat} (h : sw_ok x N) (hN : N < 2 ^ 31) (hi : i = nI k) (hk : k < 2 ^ 31) (hc : ¬ x ≤ i) : k < x.toNatClampNeg := by
  rcases Nat.lt_or_ge k x.toNatClampNeg with q | q
  · exact q
  · exact absurd (by rw [h.1, hi]; exact nI_le q hk) hc
theorem sw_end2 {x i : Int32} {N k : Nat} (h : sw_ok x N) (hN : N < 2 ^ 31) (hi : i = nI k) (hk : k < 2 ^ 31) (hc : x ≤ i) : x.toNatClampNeg ≤ k := by
  rw [h.1, hi] at hc
  have h2 := h.2
  exact (nI_leI (by omega) hk).mp hc
theorem sw_ege {i j : Int32} {k q : Nat} (hi : i = nI k) (hq : j = nI q) (h1 : k < 2 ^ 31) (h2 : q < 2 ^ 31) (hc : i ≤ j) (hle : q ≤ k) : k = q := by
  rw [hi, hq] at hc
  have := (nI_leI h1 h2).mp hc
  omega
theorem sw_egt {i j : Int32} {k q : Nat} (hi : i = nI k) (hq : j = nI q) (h1 : k < 2 ^ 31) (h2 : q < 2 ^ 31) (hc : ¬ i ≤ j) : q < k := by
  rw [hi, hq, nI_leI h1 h2] at hc
  omega
theorem sw_hit_s {C : Nat → Nat → Bool} {k : Nat} (h : ∀ j : Nat, j < k → sw_hit C j j = false) (hk : sw_hit C k k = false) : ∀ j : Nat, j < k + 1 → sw_hit C j j = false := by
  intro j hj
  rcases Nat.lt_or_ge j k with q | q
  · exact h j q
  · rw [show j = k by omega]; exact hk
theorem sw_okm1 {x : Int32} {N : Nat} (h : sw_ok x N) (hN : N < 2 ^ 31) (hc : ¬ x = 0) : vp_in (x - 1) N := by
  have h2 := h.2
  obtain ⟨k, hk⟩ : ∃ k, x.toNatClampNeg = k := ⟨_, rfl⟩
  cases k with
  | zero => exact absurd (by rw [h.1, hk]; exact nI_0) hc
  | succ k => rw [h.1, hk, nI_pred]; exact vp_in_nI (by omega) hN
theorem sw_pos {i : Int32} {q : Nat} (hi : i = nI q) (hq : q < 2 ^ 31) (hc : ¬ i ≤ 0) : ∃ z, q = z + 1 := by
  cases q with
  | zero => exact absurd (by rw [hi, nI_0]; decide) hc
  | succ z => exact ⟨z, rfl⟩
theorem sw_zero {i : Int32} {q : Nat} (hi : i = nI q) (hq : q < 2 ^ 31) (hc : i ≤ 0) : q = 0 := by
  cases q with
  | zero => rfl
  | succ z => rw [hi] at hc; exact absurd hc (nI_nle (Nat.succ_pos z) hq)
def sw_cra (vx vy : Nat → Int32) (a ox oy mx my : Int32) : Int32 := mx * (vy a.toNatClampNeg - oy) - my * (vx a.toNatClampNeg - ox)
def sw_crp (vx vy : Nat → Int32) (a b ox oy : Int32) : Int32 :=
  (vx a.toNatClampNeg - ox) * ((vy b.toNatClampNeg - oy) - (vy a.toNatClampNeg - oy)) - (vy a.toNatClampNeg - oy) * ((vx b.toNatClampNeg - ox) - (vx a.toNatClampNeg - ox))
def sw_isc (vx vy fa tb : Nat → Int32) (ox oy mx my : Int32) (pp qq : Nat → Int32) (j : Nat) : Int32 × (Nat → Int32) × (Nat → Int32) :=
  if decide (0 ≤ sw_cra vx vy (fa j) ox oy mx my) = decide (0 ≤ sw_cra vx vy (tb j) ox oy mx my) then (0, pp, qq)
  else (sw_b (sw_up1 (sw_crp vx vy (fa j) (tb j) ox oy) (sw_cra vx vy (tb j) ox oy mx my - sw_cra vx vy (fa j) ox oy mx my)), upd pp j (sw_crp vx vy (fa j) (tb j) ox oy), upd qq j (sw_cra vx vy (tb j) ox oy mx my - sw_cra vx vy (fa j) ox oy mx my))
def sw_avb (nv : Int32) (vx vy : Nat → Int32) (x y : Int32) : Bool := !(decide (64 ≤ nv)) && !(sw_tk vx vy x y nv.toNatClampNeg)
def sw_vb (nv : Int32) (vx vy : Nat → Int32) (x y : Int32) : Bool := sw_wi x 2000 && sw_wi y 2000 && sw_avb nv vx vy x y
def sw_sb (ns x y : Int32) : Bool := sw_wi x 256 && sw_wi y 256 && decide (x < y) && decide (ns < 16)
def sw_wb (nv ns nw x y z v : Int32) : Bool := sw_hv x nv && sw_hv y nv && !(decide (x = y)) && sw_hv z ns && (decide (v = -1) || sw_hv v ns) && decide (nw < 64)
theorem sw_inlt {x n : Int32} {N : Nat} (h : sw_ok n N) (hN : N < 2 ^ 31) (h0 : ¬ x < 0) (hc : x < n) : vp_in x N := by
  have h2 := h.2
  rw [vp_in_iff]
  rw [h.1, Int32.lt_iff_toInt_lt, nI_toInt (by omega)] at hc
  rw [Int32.lt_iff_toInt_lt, Int32.toInt_zero] at h0
  omega
def sw_wk (x wx wy wa ws : Int32) : Int32 := if x.toInt = 0 then wx else if x.toInt = 1 then wy else if x.toInt = 2 then wa else if x.toInt = 3 then ws else 100000
def sw_lk (x nv ns nw gnv gns gnw nt sd nb : Int32) : Int32 :=
  if x.toInt = 0 then nv else if x.toInt = 1 then ns else if x.toInt = 2 then nw
  else if x.toInt = 3 then (if nb = 0 then -1 else gnv) else if x.toInt = 4 then (if nb = 0 then -1 else gns) else if x.toInt = 5 then (if nb = 0 then -1 else gnw)
  else if x.toInt = 6 then nt else if x.toInt = 7 then (if sd = 0 then 0 else 1) else if x.toInt = 8 then nb else -1
def sw_fd (x y : Int32) : Int32 := if (!(decide (0 ≤ x ^^^ y)) && !(decide (x / y * y = x))) = true then x / y - 1 else x / y
def sw_fm (x y : Int32) : Int32 := if (!(decide (0 ≤ x ^^^ y)) && !(decide (x - x / y * y = 0))) = true then (x - x / y * y) + y else x - x / y * y
def sw_cosf (a : Int32) : Int32 :=
  if 32 < a then (if 16 < 64 - a then -(sw_cos (32 - (64 - a)).toNatClampNeg) else sw_cos (64 - a).toNatClampNeg)
  else (if 16 < a then -(sw_cos (32 - a).toNatClampNeg) else sw_cos a.toNatClampNeg)
theorem sw_iadd {a b : Int32} (h1 : -2147483648 ≤ a.toInt + b.toInt) (h2 : a.toInt + b.toInt < 2147483648) : (a + b).toInt = a.toInt + b.toInt := by
  rw [Int32.toInt_add]
  exact Int.bmod_eq_of_le (by omega) (by omega)
theorem sw_isub {a b : Int32} (h1 : -2147483648 ≤ a.toInt - b.toInt) (h2 : a.toInt - b.toInt < 2147483648) : (a - b).toInt = a.toInt - b.toInt := by
  rw [Int32.toInt_sub]
  exact Int.bmod_eq_of_le (by omega) (by omega)
theorem sw_imul {a b : Int32} (h1 : -2147483648 ≤ a.toInt * b.toInt) (h2 : a.toInt * b.toInt < 2147483648) : (a * b).toInt = a.toInt * b.toInt := by
  rw [Int32.toInt_mul]
  exact Int.bmod_eq_of_le (by omega) (by omega)
theorem sw_ltI {a b : Int32} : a < b ↔ a.toInt < b.toInt := Int32.lt_iff_toInt_lt
theorem sw_leI {a b : Int32} : a ≤ b ↔ a.toInt ≤ b.toInt := Int32.le_iff_toInt_le
theorem sw_i32 : (32 : Int32).toInt = 32 := by decide
theorem sw_i64 : (64 : Int32).toInt = 64 := by decide
theorem sw_i16 : (16 : Int32).toInt = 16 := by decide
theorem sw_cin1 {a : Int32} (h : 0 ≤ a.toInt ∧ a.toInt < 64) (h1 : ¬ 32 < a) (h2 : ¬ 16 < a) : vp_in a 17 := by
  rw [vp_in_iff]; rw [sw_ltI, sw_i16] at h2; omega
theorem sw_cin2 {a : Int32} (h : 0 ≤ a.toInt ∧ a.toInt < 64) (h1 : 32 < a) (h2 : ¬ 16 < 64 - a) : vp_in (64 - a) 17 := by
  have e : (64 - a).toInt = 64 - a.toInt := by rw [sw_isub (by rw [sw_i64]; omega) (by rw [sw_i64]; omega), sw_i64]
  rw [vp_in_iff, e]; rw [sw_ltI, sw_i16, e] at h2; rw [sw_ltI, sw_i32] at h1; omega
theorem sw_cin3 {a : Int32} (h : 0 ≤ a.toInt ∧ a.toInt < 64) (h1 : ¬ 32 < a) (h2 : 16 < a) : vp_in (32 - a) 17 := by
  have e : (32 - a).toInt = 32 - a.toInt := by rw [sw_isub (by rw [sw_i32]; omega) (by rw [sw_i32]; omega), sw_i32]
  rw [vp_in_iff, e]; rw [sw_ltI, sw_i16] at h2; rw [sw_ltI, sw_i32] at h1; omega
theorem sw_cin4 {a : Int32} (h : 0 ≤ a.toInt ∧ a.toInt < 64) (h1 : 32 < a) (h2 : 16 < 64 - a) : vp_in (32 - (64 - a)) 17 := by
  have e : (64 - a).toInt = 64 - a.toInt := by rw [sw_isub (by rw [sw_i64]; omega) (by rw [sw_i64]; omega), sw_i64]
  have e2 : (32 - (64 - a)).toInt = 32 - (64 - a).toInt := by rw [sw_isub (by rw [sw_i32]; omega) (by rw [sw_i32]; omega), sw_i32]
  rw [vp_in_iff, e2, e]; rw [sw_ltI, sw_i16, e] at h2; rw [sw_ltI, sw_i32] at h1; omega
def sw_fs1 (vx vy fa tb : Nat → Int32) (ox oy mx my : Int32) (od pp qq : Nat → Int32) : Nat → Int32 × (Nat → Int32) × (Nat → Int32) × (Nat → Int32)
  | 0 => (0, od, pp, qq)
  | j + 1 =>
    let s := sw_fs1 vx vy fa tb ox oy mx my od pp qq j
    let c := sw_isc vx vy fa tb ox oy mx my s.2.2.1 s.2.2.2 j
    if c.1 = 0 then (s.1, s.2.1, c.2.1, c.2.2)
    else (s.1 + 1, sw_insf (fun v => sw_far c.2.1 c.2.2 v.toNatClampNeg j) (nI j) s.1.toNatClampNeg s.2.1, c.2.1, c.2.2)
theorem sw_fs1_no {vx vy fa tb : Nat → Int32} {ox oy mx my : Int32} {od pp qq : Nat → Int32} {q : Nat} {n : Int32} {f1 f2 f3 : Nat → Int32} (h : (n, f1, f2, f3) = sw_fs1 vx vy fa tb ox oy mx my od pp qq q) (hc : (sw_isc vx vy fa tb ox oy mx my f2 f3 q).1 = 0) :
    (n, f1, (sw_isc vx vy fa tb ox oy mx my f2 f3 q).2.1, (sw_isc vx vy fa tb ox oy mx my f2 f3 q).2.2) = sw_fs1 vx vy fa tb ox oy mx my od pp qq (q + 1) := by
  unfold sw_fs1
  rw [← h]
  dsimp only
  rw [if_pos hc]
theorem sw_fs1_yes {vx vy fa tb : Nat → Int32} {ox oy mx my : Int32} {od pp qq : Nat → Int32} {q : Nat} {n : Int32} {f1 f2 f3 : Nat → Int32} (h : (n, f1, f2, f3) = sw_fs1 vx vy fa tb ox oy mx my od pp qq q) (hc : ¬ (sw_isc vx vy fa tb ox oy mx my f2 f3 q).1 = 0) :
    (n + 1, sw_insf (fun v => sw_far (sw_isc vx vy fa tb ox oy mx my f2 f3 q).2.1 (sw_isc vx vy fa tb ox oy mx my f2 f3 q).2.2 v.toNatClampNeg q) (nI q) n.toNatClampNeg f1, (sw_isc vx vy fa tb ox oy mx my f2 f3 q).2.1, (sw_isc vx vy fa tb ox oy mx my f2 f3 q).2.2) = sw_fs1 vx vy fa tb ox oy mx my od pp qq (q + 1) := by
  unfold sw_fs1
  rw [← h]
  dsimp only
  rw [if_neg hc]
def sw_od (n : Int32) (f : Nat → Int32) (q : Nat) : Prop := sw_ok n q ∧ ∀ j, j < n.toNatClampNeg → ∃ v, v < q ∧ f j = nI v
theorem sw_ok_mono {x : Int32} {N M : Nat} (h : sw_ok x N) (hm : N ≤ M) : sw_ok x M := ⟨h.1, Nat.le_trans h.2 hm⟩
theorem sw_od_0 {f : Nat → Int32} : sw_od 0 f 0 := ⟨⟨by decide, by decide⟩, fun j hj => absurd hj (by rw [show (0 : Int32).toNatClampNeg = 0 by decide]; omega)⟩
theorem sw_od_no {n : Int32} {f : Nat → Int32} {q : Nat} (h : sw_od n f q) : sw_od n f (q + 1) :=
  ⟨sw_ok_mono h.1 (Nat.le_succ q), fun j hj => by obtain ⟨v, hv, e⟩ := h.2 j hj; exact ⟨v, by omega, e⟩⟩
theorem sw_insf_mem {F : Int32 → Bool} {x : Int32} {P : Int32 → Prop} (hx : P x) : ∀ (n : Nat) (f : Nat → Int32) (m : Nat), n ≤ m → (∀ j, j < m + 1 → j ≠ n → P (f j)) → ∀ j, j < m + 1 → P (sw_insf F x n f j) := by
  intro n
  induction n with
  | zero =>
    intro f m hm h j hj
    unfold sw_insf
    by_cases e : j = 0
    · subst e; rw [pk_us]; exact hx
    · rw [pk_un e]; exact h j hj e
  | succ k ih =>
    intro f m hm h j hj
    unfold sw_insf
    split
    · refine ih (upd f (k + 1) (f k)) m (by omega) (fun i hi hne => ?_) j hj
      by_cases e : i = k + 1
      · subst e; rw [pk_us]; exact h k (by omega) (by omega)
      · rw [pk_un e]; exact h i hi e
    · by_cases e : j = k + 1
      · subst e; rw [pk_us]; exact hx
      · rw [pk_un e]; exact h j hj e
theorem sw_ok_succ {x : Int32} {N : Nat} (h : sw_ok x N) (hN : N + 1 < 2 ^ 31) : sw_ok (x + 1) (N + 1) ∧ (x + 1).toNatClampNeg = x.toNatClampNeg + 1 := by
  have h2 := h.2
  have e : x + 1 = nI (x.toNatClampNeg + 1) := by
    have := nI_1 x.toNatClampNeg
    rw [← h.1] at this
    exact this
  have e2 : (x + 1).toNatClampNeg = x.toNatClampNeg + 1 := by rw [e]; exact nI_clamp (by omega)
  exact ⟨⟨by rw [e2]; exact e, by omega⟩, e2⟩
theorem sw_od_yes {n : Int32} {f : Nat → Int32} {q : Nat} {F : Int32 → Bool} (h : sw_od n f q) (hq : q + 1 < 2 ^ 31) : sw_od (n + 1) (sw_insf F (nI q) n.toNatClampNeg f) (q + 1) := by
  obtain ⟨h1, h2⟩ := sw_ok_succ h.1 hq
  refine ⟨h1, fun j hj => ?_⟩
  rw [h2] at hj
  refine sw_insf_mem (P := fun y => ∃ v, v < q + 1 ∧ y = nI v) ⟨q, by omega, rfl⟩ n.toNatClampNeg f n.toNatClampNeg (Nat.le_refl _) (fun i hi hne => ?_) j hj
  obtain ⟨v, hv, e⟩ := h.2 i (by omega)
  exact ⟨v, by omega, e⟩
theorem sw_od_lt {n : Int32} {f : Nat → Int32} {q a j : Nat} (h : sw_od n f q) (e : j = a) (ha : a < n.toNatClampNeg) (hq : q < 2 ^ 31) : (f j).toNatClampNeg < q := by
  subst e
  obtain ⟨v, hv, e⟩ := h.2 j ha
  rw [e, nI_clamp (by omega)]; exact hv
theorem sw_od_in {n : Int32} {f : Nat → Int32} {q a j N : Nat} (h : sw_od n f q) (e : j = a) (ha : a < n.toNatClampNeg) (hq : q ≤ N ∧ N < 2 ^ 31) : vp_in (f j) N := by
  subst e
  obtain ⟨v, hv, e⟩ := h.2 j ha
  rw [e]; exact vp_in_nI (by omega) hq.2
def sw_fst (stop : Int32 → Bool) (f : Nat → Int32) : Nat → Int32
  | 0 => -1
  | a + 1 => if sw_fst stop f a = -1 then (if stop (f a) = true then f a else -1) else sw_fst stop f a
theorem sw_fst_no {stop : Int32 → Bool} {f : Nat → Int32} {a : Nat} {y : Int32} (h : -1 = sw_fst stop f a) (hc : stop (f a) = false) (hy : y = -1) : y = sw_fst stop f (a + 1) := by
  unfold sw_fst
  rw [if_pos h.symm, hc, hy]; rfl
theorem sw_fst_yes {stop : Int32 → Bool} {f : Nat → Int32} {a : Nat} (h : -1 = sw_fst stop f a) (hc : stop (f a) = true) : f a = sw_fst stop f (a + 1) := by
  unfold sw_fst
  rw [if_pos h.symm, if_pos hc]
theorem sw_fst_stay {stop : Int32 → Bool} {f : Nat → Int32} {a n : Nat} (h : ¬ sw_fst stop f a = -1) (hn : a ≤ n) : sw_fst stop f n = sw_fst stop f a := by
  induction n with
  | zero => rw [show a = 0 by omega]
  | succ n ih =>
    rcases Nat.lt_or_ge n a with q | q
    · rw [show a = n + 1 by omega]
    · have e := ih q
      show (if sw_fst stop f n = -1 then (if stop (f n) = true then f n else -1) else sw_fst stop f n) = _
      rw [e, if_neg h]
theorem sw_bdec (b : Bool) : (!(decide (sw_b b = 0))) = b := by cases b <;> simp [sw_b]
theorem sw_xs {r m : Int32} (hm : 0 ≤ m.toInt) : 0 ≤ (r ^^^ m).toInt ↔ 0 ≤ r.toInt := by
  have h1 : (r ^^^ m).toBitVec.msb = (r.toBitVec.msb ^^ m.toBitVec.msb) := by rw [Int32.toBitVec_xor, BitVec.msb_xor]
  rw [BitVec.msb_eq_toInt, BitVec.msb_eq_toInt, BitVec.msb_eq_toInt] at h1
  have h2 : decide (m.toBitVec.toInt < 0) = false := decide_eq_false (Int.not_lt.mpr hm)
  rw [h2, Bool.xor_false, decide_eq_decide] at h1
  have h3 : (r ^^^ m).toInt < 0 ↔ r.toInt < 0 := h1
  omega
theorem sw_emod {x m t k : Int} (h : x = t + m * k) (h0 : 0 ≤ t) (h1 : t < m) : x % m = t := by
  rw [h, Int.add_mul_emod_self_left, Int.emod_eq_of_lt h0 h1]
theorem sw_ediv {x m t k : Int} (h : x = t + m * k) (h0 : 0 ≤ t) (h1 : t < m) : x / m = k := by
  rw [h, Int.add_mul_ediv_left _ _ (by omega), Int.ediv_eq_zero_of_lt h0 h1, Int.zero_add]
theorem sw_b32 (x : Int32) : -2147483648 ≤ x.toInt ∧ x.toInt < 2147483648 := ⟨Int32.le_toInt x, Int32.toInt_lt x⟩
theorem sw_tneg {x m : Int} (hx : x < 0) : x.tmod m ≤ 0 := by
  have e : x.tmod m = -((-x).tmod m) := by rw [Int.neg_tmod, Int.neg_neg]
  have h2 := Int.tmod_nonneg m (show 0 ≤ -x by omega)
  omega
theorem sw_fm_val {x m : Int32} (hm : 0 < m.toInt) : (sw_fm x m).toInt = x.toInt % m.toInt := by
  have ht := rem_toInt x m
  have hb := tmod_bounds (a := x.toInt) hm
  have hd : x.toInt = x.toInt.tmod m.toInt + m.toInt * x.toInt.tdiv m.toInt := (Int.tmod_add_mul_tdiv x.toInt m.toInt).symm
  have hm2 := sw_b32 m
  have hn : x.toInt < 0 → x.toInt.tmod m.toInt ≤ 0 := sw_tneg
  have hp : 0 ≤ x.toInt → 0 ≤ x.toInt.tmod m.toInt := Int.tmod_nonneg _
  unfold sw_fm
  generalize x - x / m * m = r at ht ⊢
  rw [← ht] at hb hd hn hp
  simp only [sw_leI, Int32.toInt_zero, sw_xs (Int.le_of_lt hm)]
  by_cases h0 : 0 ≤ x.toInt
  · simp only [h0, decide_true, Bool.not_true, Bool.false_and, Bool.false_eq_true, if_false]
    exact (sw_emod hd (hp h0) hb.2).symm
  · by_cases h1 : r = 0
    · simp only [h1, decide_true, Bool.not_true, Bool.and_false, Bool.false_eq_true, if_false]
      rw [h1] at hd
      exact (sw_emod hd (by rw [Int32.toInt_zero]; omega) (by rw [Int32.toInt_zero]; omega)).symm
    · have h2 : r.toInt ≠ 0 := fun e => h1 (Int32.toInt_inj.mp (by rw [e]; rfl))
      have h3 := hn (by omega)
      simp only [h0, h1, decide_false, Bool.not_false, Bool.and_self, if_true]
      rw [sw_iadd (by omega) (by omega)]
      refine (sw_emod (k := x.toInt.tdiv m.toInt - 1) ?_ (by omega) (by omega)).symm
      rw [Int.mul_sub, Int.mul_one]
      omega
theorem sw_fm64 (x : Int32) : 0 ≤ (sw_fm x 64).toInt ∧ (sw_fm x 64).toInt < 64 := by
  rw [sw_fm_val (by decide), sw_i64]
  exact ⟨Int.emod_nonneg _ (by decide), Int.emod_lt_of_pos _ (by decide)⟩
def sw_co (a : Int32) : Int32 := sw_cosf (sw_fm a 64)
def sw_mX (a x y : Int32) : Int32 := sw_fd (sw_co a * x + sw_co (a - 16) * y) 256
def sw_mY (a x y : Int32) : Int32 := sw_fd (sw_co (a - 16) * x - sw_co a * y) 256
def sw_stp (fl ce fr bk pp : Nat → Int32) (v : Int32) : Bool := sw_stop fl ce fr bk v.toNatClampNeg (!(decide (0 ≤ pp v.toNatClampNeg)))
def sw_sbh (fr bk pp od : Nat → Int32) (nk ws : Int32) : Int32 :=
  if nk = 0 then ws else if 0 ≤ pp (od (nk - 1).toNatClampNeg).toNatClampNeg then fr (od (nk - 1).toNatClampNeg).toNatClampNeg else bk (od (nk - 1).toNatClampNeg).toNatClampNeg
def sw_W (vx vy fl ce fa tb fr bk : Nat → Int32) (n : Nat) (wx wy a ws : Int32) (od pp qq : Nat → Int32) (x y : Int32) : Int32 × Int32 × Int32 × Int32 × Int32 × Int32 × (Nat → Int32) × (Nat → Int32) × (Nat → Int32) :=
  if sw_mX a x y = 0 ∧ sw_mY a x y = 0 then (0, wx, wy, ws, 0, -1, od, pp, qq)
  else
    if sw_fst (fun v : Int32 => sw_stop fl ce fr bk v.toNatClampNeg (!(decide (0 ≤ (sw_fs1 vx vy fa tb wx wy (sw_mX a x y) (sw_mY a x y) od pp qq n).2.2.1 v.toNatClampNeg)))) (sw_fs1 vx vy fa tb wx wy (sw_mX a x y) (sw_mY a x y) od pp qq n).2.1 (sw_fs1 vx vy fa tb wx wy (sw_mX a x y) (sw_mY a x y) od pp qq n).1.toNatClampNeg = -1
        ∧ (sw_wi (wx + sw_mX a x y) 3000 && sw_wi (wy + sw_mY a x y) 3000) = true then
      (1, wx + sw_mX a x y, wy + sw_mY a x y,
        sw_sbh fr bk (sw_fs1 vx vy fa tb wx wy (sw_mX a x y) (sw_mY a x y) od pp qq n).2.2.1 (sw_fs1 vx vy fa tb wx wy (sw_mX a x y) (sw_mY a x y) od pp qq n).2.1 (sw_fs1 vx vy fa tb wx wy (sw_mX a x y) (sw_mY a x y) od pp qq n).1 ws,
        (sw_fs1 vx vy fa tb wx wy (sw_mX a x y) (sw_mY a x y) od pp qq n).1, -1, (sw_fs1 vx vy fa tb wx wy (sw_mX a x y) (sw_mY a x y) od pp qq n).2)
    else (2, wx, wy, ws, (sw_fs1 vx vy fa tb wx wy (sw_mX a x y) (sw_mY a x y) od pp qq n).1,
      sw_fst (fun v : Int32 => sw_stop fl ce fr bk v.toNatClampNeg (!(decide (0 ≤ (sw_fs1 vx vy fa tb wx wy (sw_mX a x y) (sw_mY a x y) od pp qq n).2.2.1 v.toNatClampNeg)))) (sw_fs1 vx vy fa tb wx wy (sw_mX a x y) (sw_mY a x y) od pp qq n).2.1 (sw_fs1 vx vy fa tb wx wy (sw_mX a x y) (sw_mY a x y) od pp qq n).1.toNatClampNeg,
      (sw_fs1 vx vy fa tb wx wy (sw_mX a x y) (sw_mY a x y) od pp qq n).2)
theorem sw_fs1_od {vx vy fa tb : Nat → Int32} {ox oy mx my : Int32} {od pp qq : Nat → Int32} : ∀ q : Nat, (hq : q < 2 ^ 31 - 1) → sw_od (sw_fs1 vx vy fa tb ox oy mx my od pp qq q).1 (sw_fs1 vx vy fa tb ox oy mx my od pp qq q).2.1 q := by
  intro q
  induction q with
  | zero => intro _; exact sw_od_0
  | succ q ih =>
    intro hq
    have h := ih (by omega)
    unfold sw_fs1
    dsimp only
    split
    · exact sw_od_no h
    · exact sw_od_yes h (by omega)
theorem sw_od_last {n : Int32} {f : Nat → Int32} {q N : Nat} (h : sw_od n f q) (hq : q ≤ N) (hN : N < 2 ^ 31) (hn : ¬ n = 0) : vp_in (f (n - 1).toNatClampNeg) N := by
  have h2 := h.1.2
  obtain ⟨k, hk⟩ : ∃ k, n.toNatClampNeg = k := ⟨_, rfl⟩
  cases k with
  | zero => exact absurd (by rw [h.1.1, hk]; exact nI_0) hn
  | succ k =>
    have e : (n - 1).toNatClampNeg = k := by rw [h.1.1, hk, nI_pred]; exact nI_clamp (by omega)
    exact sw_od_in h e (by omega) ⟨hq, hN⟩
def sw_PL (vx vy fl ce fa tb fr bk : Nat → Int32) (n : Nat) (ox oy oa os : Int32) (od pp qq ia ib ic : Nat → Int32) : Nat → Int32 × Int32 × Int32 × Int32 × Int32 × Int32 × Int32 × (Nat → Int32) × (Nat → Int32) × (Nat → Int32)
  | 0 => (0, ox, oy, oa, os, 0, -1, od, pp, qq)
  | q + 1 =>
    let s := sw_PL vx vy fl ce fa tb fr bk n ox oy oa os od pp qq ia ib ic q
    let w := sw_W vx vy fl ce fa tb fr bk n s.2.1 s.2.2.1 (sw_fm (s.2.2.2.1 + ic q) 64) s.2.2.2.2.1 s.2.2.2.2.2.2.2.1 s.2.2.2.2.2.2.2.2.1 s.2.2.2.2.2.2.2.2.2 (ia q) (ib q)
    (if w.1 = 2 then s.1 + 1 else s.1, w.2.1, w.2.2.1, sw_fm (s.2.2.2.1 + ic q) 64, w.2.2.2)
section SWPL
variable {vx vy fl ce fa tb fr bk : Nat → Int32} {n : Nat} {ox oy oa os : Int32} {od pp qq ia ib ic : Nat → Int32} {q : Nat} {cs ux uy ua us un uf : Int32} {uo up uq : Nat → Int32}
theorem sw_PL_no (h : (cs, ux, uy, ua, us, un, uf, uo, up, uq) = sw_PL vx vy fl ce fa tb fr bk n ox oy oa os od pp qq ia ib ic q) (hc : ¬ (sw_W vx vy fl ce fa tb fr bk n ux uy (sw_fm (ua + ic q) 64) us uo up uq (ia q) (ib q)).1 = 2) :
    (cs, (sw_W vx vy fl ce fa tb fr bk n ux uy (sw_fm (ua + ic q) 64) us uo up uq (ia q) (ib q)).2.1, (sw_W vx vy fl ce fa tb fr bk n ux uy (sw_fm (ua + ic q) 64) us uo up uq (ia q) (ib q)).2.2.1, sw_fm (ua + ic q) 64, (sw_W vx vy fl ce fa tb fr bk n ux uy (sw_fm (ua + ic q) 64) us uo up uq (ia q) (ib q)).2.2.2) = sw_PL vx vy fl ce fa tb fr bk n ox oy oa os od pp qq ia ib ic (q + 1) := by
  unfold sw_PL
  rw [← h]
  dsimp only
  rw [if_neg hc]
theorem sw_PL_yes (h : (cs, ux, uy, ua, us, un, uf, uo, up, uq) = sw_PL vx vy fl ce fa tb fr bk n ox oy oa os od pp qq ia ib ic q) (hc : (sw_W vx vy fl ce fa tb fr bk n ux uy (sw_fm (ua + ic q) 64) us uo up uq (ia q) (ib q)).1 = 2) :
    (cs + 1, (sw_W vx vy fl ce fa tb fr bk n ux uy (sw_fm (ua + ic q) 64) us uo up uq (ia q) (ib q)).2.1, (sw_W vx vy fl ce fa tb fr bk n ux uy (sw_fm (ua + ic q) 64) us uo up uq (ia q) (ib q)).2.2.1, sw_fm (ua + ic q) 64, (sw_W vx vy fl ce fa tb fr bk n ux uy (sw_fm (ua + ic q) 64) us uo up uq (ia q) (ib q)).2.2.2) = sw_PL vx vy fl ce fa tb fr bk n ox oy oa os od pp qq ia ib ic (q + 1) := by
  unfold sw_PL
  rw [← h]
  dsimp only
  rw [if_pos hc]
end SWPL
theorem sw_ok_of {x n : Int32} {N : Nat} (h : sw_ok n N) (hN : N < 2 ^ 31) (h0 : ¬ x < 0) (hc : x ≤ n) : sw_ok x N := by
  have h2 := h.2
  obtain ⟨j, hj, e⟩ := nI_of h0
  rw [h.1, e] at hc
  have h3 := (nI_leI hj (by omega)).mp hc
  have h4 : x.toNatClampNeg = j := by rw [e]; exact nI_clamp hj
  exact ⟨by rw [h4]; exact e, by omega⟩
theorem sw_i256 : (256 : Int32).toInt = 256 := by decide
theorem sw_fd256 (x : Int32) : (sw_fd x 256).toInt = x.toInt / 256 := by
  have hd : x.toInt = x.toInt.tmod 256 + 256 * x.toInt.tdiv 256 := (Int.tmod_add_mul_tdiv x.toInt 256).symm
  have hb := tmod_bounds (a := x.toInt) (M := 256) (by decide)
  have hx := sw_b32 x
  have hp9 : 0 ≤ x.toInt → 0 ≤ x.toInt.tmod 256 := Int.tmod_nonneg _
  have hn9 : x.toInt < 0 → x.toInt.tmod 256 ≤ 0 := sw_tneg
  have hq : (x / 256).toInt = x.toInt.tdiv 256 := by
    rw [Int32.toInt_div, sw_i256]
    exact Int.bmod_eq_of_le (by omega) (by omega)
  have hm : (x / 256 * 256).toInt = 256 * x.toInt.tdiv 256 := by
    rw [sw_imul (by rw [hq, sw_i256]; omega) (by rw [hq, sw_i256]; omega), hq, sw_i256, Int.mul_comm]
  have he : x / 256 * 256 = x ↔ x.toInt.tmod 256 = 0 := by
    rw [← Int32.toInt_inj, hm]
    omega
  unfold sw_fd
  simp only [sw_leI, Int32.toInt_zero, sw_xs (show 0 ≤ (256 : Int32).toInt by decide), he]
  by_cases h0 : 0 ≤ x.toInt
  · simp only [h0, decide_true, Bool.not_true, Bool.false_and, Bool.false_eq_true, if_false]
    rw [hq]
    exact (sw_ediv hd (Int.tmod_nonneg _ h0) hb.2).symm
  · by_cases h1 : x.toInt.tmod 256 = 0
    · simp only [h1, decide_true, Bool.not_true, Bool.and_false, Bool.false_eq_true, if_false]
      rw [hq]
      exact (sw_ediv hd (by omega) hb.2).symm
    · simp only [h0, h1, decide_false, Bool.not_false, Bool.and_self, if_true]
      have h2 := sw_tneg (x := x.toInt) (m := 256) (by omega)
      rw [sw_isub (by rw [hq, show (1 : Int32).toInt = 1 by decide]; omega) (by rw [hq, show (1 : Int32).toInt = 1 by decide]; omega), hq, show (1 : Int32).toInt = 1 by decide]
      refine (sw_ediv (t := x.toInt.tmod 256 + 256) ?_ (by omega) (by omega)).symm
      omega
end
section
/-! what every contract here shares: the world, the statics, the calls -/
def sw_G (tq : Nat) (A : Nat → Prop) (U : State) (H : Heap) : Prop :=
  va_Z "SectorWalk" "QUARTER_COSINES" "[I" (.ref tq) A U H ∧ va_T .int tq 17 (fun j => .int (sw_cos j)) A U H ∧ ∀ q ∈ sw_nest, va_Nw (.methodLinkNest q.1 q.2.1 q.2.2.1 q.2.2.2) U
theorem sw_G.nest {tq : Nat} {A : Nat → Prop} {U : State} {H : Heap} (h : sw_G tq A U H) {a hh : String} {i : Nat} {x : MethodName} (hq : (a, i, x, hh) ∈ sw_nest) : va_Nw (.methodLinkNest a i x hh) U := h.2.2 _ hq
theorem sw_G.calling {tq : Nat} {A : Nat → Prop} {U : State} (h : sw_G tq A U U.heap) (g : JFrame) (mk : MethodId) (a : Array Value) : sw_G tq A (U.calling g mk a) (U.calling g mk a).heap :=
  ⟨va_Z.moved (u := U) (U := U.calling g mk a) (Vm.Alike.refl U.vm) h.1, va_T.moved (u := U) (U := U.calling g mk a) (Vm.Alike.refl U.vm) h.2.1, fun q hq => va_Nw.same (u := U) rfl rfl (h.2.2 q hq)⟩
theorem sw_G.call {tq : Nat} {A B : Nat → Prop} {s U : State} {H : Heap} {locs : List Loc} (h : sw_G tq A s s.heap) (hS : va_S A s.heap H locs) (hF : ∀ q, B q → A q) (hU : U.heap = H) (hW : s.WarmedH U.vm) : sw_G tq B U U.heap := by
  obtain ⟨h1, h2, h3⟩ := h
  subst hU
  exact ⟨((h1.kept hS.2.1).narrow hF).moved hW.alike, ((h2.kept hS.2.1).narrow hF).moved hW.alike, fun q hq => va_Nw.warmM hW (h3 q hq)⟩
def sw_B (D : va_G) (cI cL : ClassId) (tq sz : Nat) (ws : va_W) (U : State) : Prop :=
  U.heap.size = sz ∧ va_P D sw_cl ws U.heap ∧ va_K D sw_cl [(cI, .int), (cL, .long)] U ∧ va_D (fun _ => True) ws ∧ sw_G tq (va_A ws sz) U U.heap
def sw_R {S : Type} (D : va_G) (A : Nat → Prop) (W' : S → va_W) (u : S) (t : State) : Prop := va_P D sw_cl (W' u) t.heap ∧ va_D A (W' u)
theorem sw_blind {av : List Value} {D : va_G} {cI cL : ClassId} {tq sz : Nat} {ws : va_W} : FrameBlind (va_Pc av (sw_B D cI cL tq sz ws)) := fun a U g mk q => by
  obtain ⟨q0, q1, qP, qK, qD, qG⟩ := q
  exact ⟨q0, q1, qP, va_K.moved (u := U) (U := U.calling g mk a) (Vm.Alike.refl U.vm) qK, qD, qG.calling g mk a⟩
theorem sw_uni {D : va_G} {cl : List vw_C} {cI cL cA : ClassId} {U : State} (h : va_K D cl ([(cI, .int), (cL, .long)] ++ [(cA, .int)]) U) : cI = cA := by
  have h1 : U.vm.findClass ("[" ++ FieldType.int.toString) = some cI := (h.2 0 _ rfl).2
  have h2 : U.vm.findClass ("[" ++ FieldType.int.toString) = some cA := (h.2 2 _ rfl).2
  exact Option.some.inj (h1.symm.trans h2)
theorem sw_uniL {D : va_G} {cl : List vw_C} {cI cL cA : ClassId} {U : State} (h : va_K D cl ([(cI, .int), (cL, .long)] ++ [(cA, .long)]) U) : cL = cA := by
  have h1 : U.vm.findClass ("[" ++ FieldType.long.toString) = some cL := (h.2 1 _ rfl).2
  have h2 : U.vm.findClass ("[" ++ FieldType.long.toString) = some cA := (h.2 2 _ rfl).2
  exact Option.some.inj (h1.symm.trans h2)
/-- a contract by a walk, also for a method of a class that has natives beside it -/
theorem sw_ofW {l : Launch} {y : MethodName} {ws ws' : List Cond} {rm : Room} {Pc : Array Value → State → Prop} {Qc : Array Value → State → Outcome → State → Prop} {mc ms : Nat} {free : Addr → Prop} {cc : ByteArray} {maxL : Nat} {ret : Option FieldType}
    (hy : plainFor y = true) (hw : ws = Cond.code y cc maxL ret :: ws')
    (body : ∀ p e s m args below meth c s₁, BodyLoose p l y (headSpec ws rm) cc maxL ret e s m args below meth c s₁ → c.maxLocals = maxL → Pc args s →
      W p l e (headSpec ws rm).room s m args below meth c s.heap [] 0 0 (MQ below Qc args s mc ms free) (entryFrame m args maxL)) : Met l y ws rm Pc Qc mc ms free := by
  refine MetFree.of_bodySF (code := cc) (maxLocals := maxL) (ret := ret) hy ?_ ?_
  · intro args s m h hn
    obtain ⟨meth, c, h1, h2, h3, h4, h5, h6, -, -⟩ := Cond.code_spec hn (atoms_spec (ws := ws) h _ (by rw [hw]; exact List.mem_cons_self))
    exact ⟨meth, c, h1, h2, h3, h4, h5, h6⟩
  · intro p e s m args below meth c s₁ B hml hP _
    have hh0 : s₁.heap = s.heap := by rw [B.state]; rfl
    obtain ⟨t, a1, o, b1, b2, b3⟩ := body p e s m args below meth c s₁ B hml hP s₁ hh0 (Stand.of_body B)
    exact ⟨t, o, a1, b1, b2, ⟨b3.1, b3.2⟩⟩
theorem sw_fmo {α β : Type} {f : α → Option β} : ∀ {l : List α} {w : List β}, l.map f = w.map some → l.filterMap f = w := by
  intro l
  induction l with
  | nil => intro w h; cases w with
    | nil => rfl
    | cons b w => simp at h
  | cons a l ih => intro w h; cases w with
    | nil => simp at h
    | cons b w => simp only [List.map_cons, List.cons.injEq] at h; rw [List.filterMap_cons, h.1]; simp only [ih h.2]
section SWC
variable {p : Program} {l : Launch} {e : Env} {R : Room} {s : State} {m : MethodId} {args : Array Value} {below : List Frame} {meth : Method} {c : Code} {H : Heap} {locs : List Loc} {cells slots : Nat} {Q : State → Prop}
variable {pc : Nat} {ls : Array Slot} {rest st0 : List Value} {a : Array Value} {A : Nat → Prop} {mc ms : Nat} {D : va_G} {cI cL : ClassId} {tq : Nat} {ws wc wr : va_W} {As : List Value}
theorem sw_pre (hK : va_K D sw_cl [(cI, .int), (cL, .long)] s) (hP : va_P D sw_cl ws H) (hD : va_D A ws) (hS : va_S A s.heap H locs) (hA : ∀ q, s.heap.size ≤ q → A q) (hG : sw_G tq A s s.heap) (isC : List Nat) (hC : isC.map (fun i => ws[i]?) = wc.map some) (hn : va_nd isC = true) :
    ∀ U : State, U.heap = H → s.WarmedH U.vm → va_Pc As (sw_B D cI cL tq H.size wc) As.toArray U := fun U hU hW =>
  ⟨rfl, by rw [hU], by rw [hU]; exact hP.sub isC (sw_fmo hC), va_K.moved hW.alike hK, (hD.sub isC hn hC).weaken (fun _ _ _ _ => trivial), hG.call hS (va_free hD hS hA isC hC) hU hW⟩
theorem sw_preS (hK : va_K D sw_cl [(cI, .int), (cL, .long)] s) (hP : va_P D sw_cl ws H) (hD : va_D A ws) (hS : va_S A s.heap H locs) (hA : ∀ q, s.heap.size ≤ q → A q) (hG : sw_G tq A s s.heap) (isC : List Nat) (hC : isC.map (fun i => ws[i]?) = wc.map some) (hn : va_nd isC = true) : PreS s H (va_Pc As (sw_B D cI cL tq H.size wc)) As :=
  ⟨sw_blind, sw_pre hK hP hD hS hA hG isC hC hn⟩
theorem sw_preV {b : Nat} {C : String} {T : u_T} {N : Nat} {fs : List Value} (hK : va_K D sw_cl [(cI, .int), (cL, .long)] s) (hP : va_P D sw_cl ws H) (hD : va_D A ws) (hS : va_S A s.heap H locs) (hA : ∀ q, s.heap.size ≤ q → A q) (hG : sw_G tq A s s.heap) (isC : List Nat) (hC : isC.map (fun i => ws[i]?) = wc.map some) (hn : va_nd isC = true) (ci q0 : Nat) (hc : sw_cl[ci]? = some (C, T, N)) (he : ws[q0]? = some (b, .inr (ci, fs))) : PreV s H C b (va_Pc (.ref b :: As) (sw_B D cI cL tq H.size wc)) As :=
  ⟨sw_blind, va_recv hK hP hc he, sw_pre hK hP hD hS hA hG isC hC hn⟩
theorem sw_ki {S : Type} {post : Int32 → S → Prop} {W' : S → va_W} (hr : va_Run p l e R s m args below meth c H locs cells slots mc ms (F0 m pc ls st0) rest (va_Qi post (sw_R D (va_A wc H.size) W') (va_A wc H.size) a) (va_A wc H.size)) (hP : va_P D sw_cl ws H) (hD : va_D A ws) (hS : va_S A s.heap H locs) (hA : ∀ q, s.heap.size ≤ q → A q) (isC isR : List Nat) (hC : isC.map (fun i => ws[i]?) = wc.map some) (hR : isR.map (fun i => ws[i]?) = wr.map some) (hn : va_nd isR = true) (hdis : ∀ i ∈ isR, i ∉ isC)
    (kk : ∀ (r : Int32) (u : S) (H1 : Heap) (locs1 : List Loc), post r u → va_P D sw_cl (wr ++ W' u) H1 → va_D A (wr ++ W' u) → va_S A s.heap H1 locs1 → W p l e R s m args below meth c H1 locs1 (cells + mc) (slots + ms) Q (F0 m (pc + 3) ls (.int r :: rest))) : W p l e R s m args below meth c H locs cells slots Q (F0 m pc ls st0) := by
  have hF := va_free hD hS hA isC hC
  refine va_calli hr hS (fun q _ h => hF q h) hF (fun r u t H1 locs1 ht hvm hp hB hz hk hS1 => ?_)
  obtain ⟨hP1, hD1⟩ := hB
  rw [ht] at hP1
  obtain ⟨x, y⟩ := va_join hP hD isC isR hC hR hn hdis hk hF hP1 hD1
  exact kk r u H1 locs1 hp x y hS1
theorem sw_kl {S : Type} {post : Int64 → S → Prop} {W' : S → va_W} (hr : va_Run p l e R s m args below meth c H locs cells slots mc ms (F0 m pc ls st0) rest (va_Ql post (sw_R D (va_A wc H.size) W') (va_A wc H.size) a) (va_A wc H.size)) (hP : va_P D sw_cl ws H) (hD : va_D A ws) (hS : va_S A s.heap H locs) (hA : ∀ q, s.heap.size ≤ q → A q) (isC isR : List Nat) (hC : isC.map (fun i => ws[i]?) = wc.map some) (hR : isR.map (fun i => ws[i]?) = wr.map some) (hn : va_nd isR = true) (hdis : ∀ i ∈ isR, i ∉ isC)
    (kk : ∀ (r : Int64) (u : S) (H1 : Heap) (locs1 : List Loc), post r u → va_P D sw_cl (wr ++ W' u) H1 → va_D A (wr ++ W' u) → va_S A s.heap H1 locs1 → W p l e R s m args below meth c H1 locs1 (cells + mc) (slots + ms) Q (F0 m (pc + 3) ls (.long r :: rest))) : W p l e R s m args below meth c H locs cells slots Q (F0 m pc ls st0) := by
  have hF := va_free hD hS hA isC hC
  refine va_calll hr hS (fun q _ h => hF q h) hF (fun r u t H1 locs1 ht hvm hp hB hz hk hS1 => ?_)
  obtain ⟨hP1, hD1⟩ := hB
  rw [ht] at hP1
  obtain ⟨x, y⟩ := va_join hP hD isC isR hC hR hn hdis hk hF hP1 hD1
  exact kk r u H1 locs1 hp x y hS1
theorem sw_kv {S : Type} {post : S → Prop} {W' : S → va_W} (hr : va_Run p l e R s m args below meth c H locs cells slots mc ms (F0 m pc ls st0) rest (va_Qv post (sw_R D (va_A wc H.size) W') (va_A wc H.size) a) (va_A wc H.size)) (hP : va_P D sw_cl ws H) (hD : va_D A ws) (hS : va_S A s.heap H locs) (hA : ∀ q, s.heap.size ≤ q → A q) (isC isR : List Nat) (hC : isC.map (fun i => ws[i]?) = wc.map some) (hR : isR.map (fun i => ws[i]?) = wr.map some) (hn : va_nd isR = true) (hdis : ∀ i ∈ isR, i ∉ isC)
    (kk : ∀ (u : S) (H1 : Heap) (locs1 : List Loc), post u → va_P D sw_cl (wr ++ W' u) H1 → va_D A (wr ++ W' u) → va_S A s.heap H1 locs1 → W p l e R s m args below meth c H1 locs1 (cells + mc) (slots + ms) Q (F0 m (pc + 3) ls rest)) : W p l e R s m args below meth c H locs cells slots Q (F0 m pc ls st0) := by
  have hF := va_free hD hS hA isC hC
  refine va_callv hr hS (fun q _ h => hF q h) hF (fun u t H1 locs1 ht hvm hp hB hz hk hS1 => ?_)
  obtain ⟨hP1, hD1⟩ := hB
  rw [ht] at hP1
  obtain ⟨x, y⟩ := va_join hP hD isC isR hC hR hn hdis hk hF hP1 hD1
  exact kk u H1 locs1 hp x y hS1
theorem sw_ki0 {S : Type} {post : Int32 → S → Prop} {W' : S → va_W} (hr : va_Run p l e R s m args below meth c H locs cells slots 0 0 (F0 m pc ls st0) rest (va_Qi post (sw_R D (va_A wc H.size) W') (va_A wc H.size) a) (va_A wc H.size)) (hP : va_P D sw_cl ws H) (hD : va_D A ws) (hS : va_S A s.heap H locs) (hA : ∀ q, s.heap.size ≤ q → A q) (isC isR : List Nat) (hC : isC.map (fun i => ws[i]?) = wc.map some) (hR : isR.map (fun i => ws[i]?) = wr.map some) (hn : va_nd isR = true) (hdis : ∀ i ∈ isR, i ∉ isC)
    (kk : ∀ (r : Int32) (u : S) (H1 : Heap) (locs1 : List Loc), post r u → va_P D sw_cl (wr ++ W' u) H1 → va_D A (wr ++ W' u) → va_S A s.heap H1 locs1 → W p l e R s m args below meth c H1 locs1 cells slots Q (F0 m (pc + 3) ls (.int r :: rest))) : W p l e R s m args below meth c H locs cells slots Q (F0 m pc ls st0) :=
  sw_ki hr hP hD hS hA isC isR hC hR hn hdis kk
theorem sw_kl0 {S : Type} {post : Int64 → S → Prop} {W' : S → va_W} (hr : va_Run p l e R s m args below meth c H locs cells slots 0 0 (F0 m pc ls st0) rest (va_Ql post (sw_R D (va_A wc H.size) W') (va_A wc H.size) a) (va_A wc H.size)) (hP : va_P D sw_cl ws H) (hD : va_D A ws) (hS : va_S A s.heap H locs) (hA : ∀ q, s.heap.size ≤ q → A q) (isC isR : List Nat) (hC : isC.map (fun i => ws[i]?) = wc.map some) (hR : isR.map (fun i => ws[i]?) = wr.map some) (hn : va_nd isR = true) (hdis : ∀ i ∈ isR, i ∉ isC)
    (kk : ∀ (r : Int64) (u : S) (H1 : Heap) (locs1 : List Loc), post r u → va_P D sw_cl (wr ++ W' u) H1 → va_D A (wr ++ W' u) → va_S A s.heap H1 locs1 → W p l e R s m args below meth c H1 locs1 cells slots Q (F0 m (pc + 3) ls (.long r :: rest))) : W p l e R s m args below meth c H locs cells slots Q (F0 m pc ls st0) :=
  sw_kl hr hP hD hS hA isC isR hC hR hn hdis kk
theorem sw_kv0 {S : Type} {post : S → Prop} {W' : S → va_W} (hr : va_Run p l e R s m args below meth c H locs cells slots 0 0 (F0 m pc ls st0) rest (va_Qv post (sw_R D (va_A wc H.size) W') (va_A wc H.size) a) (va_A wc H.size)) (hP : va_P D sw_cl ws H) (hD : va_D A ws) (hS : va_S A s.heap H locs) (hA : ∀ q, s.heap.size ≤ q → A q) (isC isR : List Nat) (hC : isC.map (fun i => ws[i]?) = wc.map some) (hR : isR.map (fun i => ws[i]?) = wr.map some) (hn : va_nd isR = true) (hdis : ∀ i ∈ isR, i ∉ isC)
    (kk : ∀ (u : S) (H1 : Heap) (locs1 : List Loc), post u → va_P D sw_cl (wr ++ W' u) H1 → va_D A (wr ++ W' u) → va_S A s.heap H1 locs1 → W p l e R s m args below meth c H1 locs1 cells slots Q (F0 m (pc + 3) ls rest)) : W p l e R s m args below meth c H locs cells slots Q (F0 m pc ls st0) :=
  sw_kv hr hP hD hS hA isC isR hC hR hn hdis kk
end SWC
/-! the words that all methods here share -/
theorem sw_gN {y : MethodName} {b : ByteArray} {n : Nat} {ret : Option FieldType} (h : Cond.code y b n ret ∈ sw_words) : GoodIn sw_words (.code y b n ret :: sw_words) := by
  intro w hw
  rcases List.mem_cons.mp hw with rfl | hw
  · exact sw_good _ h
  · exact sw_good _ hw
theorem sw_gV {own C : String} {i : Nat} {y : MethodName} {b : ByteArray} {n : Nat} {ret : Option FieldType} (h1 : Cond.methodLink own i y ∈ sw_words) (h2 : Cond.instanceMethod y ∈ sw_words) (h3 : Cond.selects C y y ∈ sw_words) (h4 : Cond.initialized C ∈ sw_words) (h : Cond.code y b n ret ∈ sw_words) : GoodIn sw_words (wsV own i C y (.code y b n ret :: sw_words)) := by
  intro w hw
  unfold wsV at hw
  rcases List.mem_append.mp hw with hw | hw
  · simp only [List.mem_cons, List.not_mem_nil, or_false] at hw
    rcases hw with rfl | rfl | rfl | rfl
    · exact sw_good _ h1
    · exact sw_good _ h2
    · exact sw_good _ h3
    · exact sw_good _ h4
  · exact sw_gN h w hw
theorem sw_gS {own : String} {i : Nat} {y : MethodName} {b : ByteArray} {n : Nat} {ret : Option FieldType} (h1 : Cond.methodLink own i y ∈ sw_words) (h2 : Cond.static y ∈ sw_words) (h4 : Cond.initialized own ∈ sw_words) (h : Cond.code y b n ret ∈ sw_words) : GoodIn sw_words (wsS own i y (.code y b n ret :: sw_words)) := by
  intro w hw
  unfold wsS at hw
  rcases List.mem_append.mp hw with hw | hw
  · simp only [List.mem_cons, List.not_mem_nil, or_false] at hw
    rcases hw with rfl | rfl | rfl
    · exact sw_good _ h1
    · exact sw_good _ h2
    · exact sw_good _ h4
  · exact sw_gN h w hw
theorem sw_gT {own : String} {i : Nat} {y : MethodName} {b : ByteArray} {n : Nat} {ret : Option FieldType} (h1 : Cond.methodLink own i y ∈ sw_words) (h2 : Cond.static y ∈ sw_words) (h4 : Cond.initialized y.cls ∈ sw_words) (h : Cond.code y b n ret ∈ sw_words) : GoodIn sw_words (va_wsS own i y (.code y b n ret :: sw_words)) := by
  intro w hw
  unfold va_wsS at hw
  rcases List.mem_append.mp hw with hw | hw
  · simp only [List.mem_cons, List.not_mem_nil, or_false] at hw
    rcases hw with rfl | rfl | rfl
    · exact sw_good _ h1
    · exact sw_good _ h2
    · exact sw_good _ h4
  · exact sw_gN h w hw
end
section
abbrev rm_Math_floorDiv : Room := { frames := 0, cells := 0, slots := 0, locals := 0 }
abbrev q_Math_floorDiv (D : va_G) (cI cL : ClassId) (A : Nat → Prop) (x : Int32) (y : Int32) : Array Value → State → Outcome → State → Prop := va_Qi (S := Unit) (fun (r : Int32) => fun (_ : Unit) => r = (sw_fd x y)) (sw_R D A (fun (_ : Unit) => [])) A
set_option maxHeartbeats 4000000 in
set_option maxRecDepth 100000 in
theorem c_Math_floorDiv (l : Launch) (D : va_G) (cI cL : ClassId) (tq sz : Nat) (x : Int32) (y : Int32) (hy : ¬ y = 0) : Met l y_Math_floorDiv w_Math_floorDiv rm_Math_floorDiv (va_Pc [.int x, .int y] (sw_B D cI cL tq sz [])) (q_Math_floorDiv D cI cL (va_A [] sz) x y) 0 0 (va_A [] sz) := by
  refine sw_ofW (cc := b_Math_floorDiv) (maxL := 3) (ret := (some .int)) (by decide +kernel) rfl ?_
  intro mp me s mm args below meth mk s₁ B hml hv
  obtain ⟨rfl, hsz, hP, hK, hD0, hG⟩ := hv
  have hx := B.exec
  have hb := B.bytes
  have hr := B.returns
  have hts := atoms_spec (ws := w_Math_floorDiv) B.pre
  have hw : ∀ w ∈ sw_words, w.before _ s = true := fun w h => hts w (List.mem_cons_of_mem _ h)
  have hown : s.vm.findClass R_Math = some mm.cls := findClass_of_methodNamed B.named
  have hlocks := B.notSynchronized
  subst hsz
  have hD := hD0.self (sz := s.heap.size)
  generalize hAe : va_A [] s.heap.size = A at hD hG ⊢
  have hA : ∀ q : Nat, s.heap.size ≤ q → A q := fun q h => by rw [← hAe]; exact Or.inr h
  have hS : va_S A s.heap s.heap [] := va_S.rf
  have hl := lv_entry ([.int x, .int y]) (n := 3) (Nat.le_of_ble_eq_true rfl)
  rw [lg_entry_eq]
  generalize (lg_sl ([.int x, .int y]) ++ List.replicate (3 - (lg_sl ([.int x, .int y])).length) Slot.unset).toArray = ls at hl ⊢
  have hl : lv_has ls 3 [(0, .int x), (1, .int y)] := hl
  refine lv_iload_n hx hb d_Math_floorDiv_0 rfl (lv_at hl 0 rfl) ?_
  refine lv_iload_n hx hb d_Math_floorDiv_1 rfl (lv_at hl 1 rfl) ?_
  refine lv_idiv hx hb d_Math_floorDiv_2 (hy) ?_
  refine lv_istore_n (lv' := [(2, .int (x / y)), (0, .int x), (1, .int y)]) hx hb d_Math_floorDiv_3 rfl hl (by decide) rfl (fun ls hl => ?_)
  refine lv_iload_n hx hb d_Math_floorDiv_4 rfl (lv_at hl 1 rfl) ?_
  refine lv_iload_n hx hb d_Math_floorDiv_5 rfl (lv_at hl 2 rfl) ?_
  refine lv_ixor hx hb d_Math_floorDiv_6 ?_
  refine lv_if_ge (tgt := 21) hx hb d_Math_floorDiv_7 (by decide) (fun c_7 => ?_) (fun c_7 => ?_)
  · skip
    refine lv_iload_n hx hb d_Math_floorDiv_21 rfl (lv_at hl 0 rfl) ?_
    have hP9 := hP.sub (ws' := []) [] rfl
    have hD9 := hD.sub (ws' := []) [] (by decide) rfl
    exact W.iret (v := x / y) hx hb hr (fun T9 hT9 hW9 => ⟨⟨x / y, (), rfl, by simp [sw_fd, c_7], by rw [hT9]; exact hP9, hD9⟩, hS.F hT9⟩) hS.2.2 d_Math_floorDiv_22
  · skip
    refine lv_iload_n hx hb d_Math_floorDiv_10 rfl (lv_at hl 0 rfl) ?_
    refine lv_iload_n hx hb d_Math_floorDiv_11 rfl (lv_at hl 2 rfl) ?_
    refine lv_imul hx hb d_Math_floorDiv_12 ?_
    refine lv_iload_n hx hb d_Math_floorDiv_13 rfl (lv_at hl 1 rfl) ?_
    refine lv_icmp_eq (tgt := 21) hx hb d_Math_floorDiv_14 (by decide) (fun c_14 => ?_) (fun c_14 => ?_)
    · skip
      refine lv_iload_n hx hb d_Math_floorDiv_21 rfl (lv_at hl 0 rfl) ?_
      have hP9 := hP.sub (ws' := []) [] rfl
      have hD9 := hD.sub (ws' := []) [] (by decide) rfl
      exact W.iret (v := x / y) hx hb hr (fun T9 hT9 hW9 => ⟨⟨x / y, (), rfl, by simp [sw_fd, c_7, c_14], by rw [hT9]; exact hP9, hD9⟩, hS.F hT9⟩) hS.2.2 d_Math_floorDiv_22
    · skip
      refine lv_iload_n hx hb d_Math_floorDiv_17 rfl (lv_at hl 0 rfl) ?_
      refine lv_iconst (v := 1) hx hb d_Math_floorDiv_18 (by decide) ?_
      refine lv_isub hx hb d_Math_floorDiv_19 ?_
      have hP9 := hP.sub (ws' := []) [] rfl
      have hD9 := hD.sub (ws' := []) [] (by decide) rfl
      exact W.iret (v := (x / y) - 1) hx hb hr (fun T9 hT9 hW9 => ⟨⟨(x / y) - 1, (), rfl, by simp [sw_fd, c_7, c_14], by rw [hT9]; exact hP9, hD9⟩, hS.F hT9⟩) hS.2.2 d_Math_floorDiv_20

abbrev rm_Math_floorMod : Room := { frames := 0, cells := 0, slots := 0, locals := 0 }
abbrev q_Math_floorMod (D : va_G) (cI cL : ClassId) (A : Nat → Prop) (x : Int32) (y : Int32) : Array Value → State → Outcome → State → Prop := va_Qi (S := Unit) (fun (r : Int32) => fun (_ : Unit) => r = (sw_fm x y)) (sw_R D A (fun (_ : Unit) => [])) A
set_option maxHeartbeats 4000000 in
set_option maxRecDepth 100000 in
theorem c_Math_floorMod (l : Launch) (D : va_G) (cI cL : ClassId) (tq sz : Nat) (x : Int32) (y : Int32) (hy : ¬ y = 0) : Met l y_Math_floorMod w_Math_floorMod rm_Math_floorMod (va_Pc [.int x, .int y] (sw_B D cI cL tq sz [])) (q_Math_floorMod D cI cL (va_A [] sz) x y) 0 0 (va_A [] sz) := by
  refine sw_ofW (cc := b_Math_floorMod) (maxL := 3) (ret := (some .int)) (by decide +kernel) rfl ?_
  intro mp me s mm args below meth mk s₁ B hml hv
  obtain ⟨rfl, hsz, hP, hK, hD0, hG⟩ := hv
  have hx := B.exec
  have hb := B.bytes
  have hr := B.returns
  have hts := atoms_spec (ws := w_Math_floorMod) B.pre
  have hw : ∀ w ∈ sw_words, w.before _ s = true := fun w h => hts w (List.mem_cons_of_mem _ h)
  have hown : s.vm.findClass R_Math = some mm.cls := findClass_of_methodNamed B.named
  have hlocks := B.notSynchronized
  subst hsz
  have hD := hD0.self (sz := s.heap.size)
  generalize hAe : va_A [] s.heap.size = A at hD hG ⊢
  have hA : ∀ q : Nat, s.heap.size ≤ q → A q := fun q h => by rw [← hAe]; exact Or.inr h
  have hS : va_S A s.heap s.heap [] := va_S.rf
  have hl := lv_entry ([.int x, .int y]) (n := 3) (Nat.le_of_ble_eq_true rfl)
  rw [lg_entry_eq]
  generalize (lg_sl ([.int x, .int y]) ++ List.replicate (3 - (lg_sl ([.int x, .int y])).length) Slot.unset).toArray = ls at hl ⊢
  have hl : lv_has ls 3 [(0, .int x), (1, .int y)] := hl
  refine lv_iload_n hx hb d_Math_floorMod_0 rfl (lv_at hl 0 rfl) ?_
  refine lv_iload_n hx hb d_Math_floorMod_1 rfl (lv_at hl 1 rfl) ?_
  refine lv_irem hx hb d_Math_floorMod_2 (hy) ?_
  refine lv_istore_n (lv' := [(2, .int (x - x / y * y)), (0, .int x), (1, .int y)]) hx hb d_Math_floorMod_3 rfl hl (by decide) rfl (fun ls hl => ?_)
  refine lv_iload_n hx hb d_Math_floorMod_4 rfl (lv_at hl 1 rfl) ?_
  refine lv_iload_n hx hb d_Math_floorMod_5 rfl (lv_at hl 2 rfl) ?_
  refine lv_ixor hx hb d_Math_floorMod_6 ?_
  refine lv_if_ge (tgt := 18) hx hb d_Math_floorMod_7 (by decide) (fun c_7 => ?_) (fun c_7 => ?_)
  · skip
    refine lv_iload_n hx hb d_Math_floorMod_18 rfl (lv_at hl 0 rfl) ?_
    have hP9 := hP.sub (ws' := []) [] rfl
    have hD9 := hD.sub (ws' := []) [] (by decide) rfl
    exact W.iret (v := x - x / y * y) hx hb hr (fun T9 hT9 hW9 => ⟨⟨x - x / y * y, (), rfl, by simp [sw_fm, c_7], by rw [hT9]; exact hP9, hD9⟩, hS.F hT9⟩) hS.2.2 d_Math_floorMod_19
  · skip
    refine lv_iload_n hx hb d_Math_floorMod_10 rfl (lv_at hl 0 rfl) ?_
    refine lv_if_eq (tgt := 18) hx hb d_Math_floorMod_11 (by decide) (fun c_11 => ?_) (fun c_11 => ?_)
    · skip
      refine lv_iload_n hx hb d_Math_floorMod_18 rfl (lv_at hl 0 rfl) ?_
      have hP9 := hP.sub (ws' := []) [] rfl
      have hD9 := hD.sub (ws' := []) [] (by decide) rfl
      exact W.iret (v := x - x / y * y) hx hb hr (fun T9 hT9 hW9 => ⟨⟨x - x / y * y, (), rfl, by simp [sw_fm, c_7, c_11], by rw [hT9]; exact hP9, hD9⟩, hS.F hT9⟩) hS.2.2 d_Math_floorMod_19
    · skip
      refine lv_iload_n hx hb d_Math_floorMod_14 rfl (lv_at hl 0 rfl) ?_
      refine lv_iload_n hx hb d_Math_floorMod_15 rfl (lv_at hl 2 rfl) ?_
      refine lv_iadd hx hb d_Math_floorMod_16 ?_
      have hP9 := hP.sub (ws' := []) [] rfl
      have hD9 := hD.sub (ws' := []) [] (by decide) rfl
      exact W.iret (v := (x - x / y * y) + y) hx hb hr (fun T9 hT9 hW9 => ⟨⟨(x - x / y * y) + y, (), rfl, by simp [sw_fm, c_7, c_11], by rw [hT9]; exact hP9, hD9⟩, hS.F hT9⟩) hS.2.2 d_Math_floorMod_17

abbrev rm_SW_isWithin : Room := { frames := 0, cells := 0, slots := 0, locals := 0 }
abbrev q_SW_isWithin (D : va_G) (cI cL : ClassId) (A : Nat → Prop) (x : Int32) (y : Int32) : Array Value → State → Outcome → State → Prop := va_Qi (S := Unit) (fun (r : Int32) => fun (_ : Unit) => r = sw_b (sw_wi x y)) (sw_R D A (fun (_ : Unit) => [])) A
set_option maxHeartbeats 4000000 in
set_option maxRecDepth 100000 in
theorem c_SW_isWithin (l : Launch) (D : va_G) (cI cL : ClassId) (tq sz : Nat) (x : Int32) (y : Int32) : Met l y_SW_isWithin w_SW_isWithin rm_SW_isWithin (va_Pc [.int x, .int y] (sw_B D cI cL tq sz [])) (q_SW_isWithin D cI cL (va_A [] sz) x y) 0 0 (va_A [] sz) := by
  refine Met.ofW (cc := b_SW_isWithin) (maxL := 2) (ret := (some .boolean)) (by decide) rfl ?_
  intro mp me s mm args below meth mk s₁ B hml hv
  obtain ⟨rfl, hsz, hP, hK, hD0, hG⟩ := hv
  have hx := B.exec
  have hb := B.bytes
  have hr := B.returns
  have hts := atoms_spec (ws := w_SW_isWithin) B.pre
  have hw : ∀ w ∈ sw_words, w.before _ s = true := fun w h => hts w (List.mem_cons_of_mem _ h)
  have hown : s.vm.findClass R_SW = some mm.cls := findClass_of_methodNamed B.named
  have hlocks := B.notSynchronized
  subst hsz
  have hD := hD0.self (sz := s.heap.size)
  generalize hAe : va_A [] s.heap.size = A at hD hG ⊢
  have hA : ∀ q : Nat, s.heap.size ≤ q → A q := fun q h => by rw [← hAe]; exact Or.inr h
  have hS : va_S A s.heap s.heap [] := va_S.rf
  have hl := lv_entry ([.int x, .int y]) (n := 2) (Nat.le_of_ble_eq_true rfl)
  rw [lg_entry_eq]
  generalize (lg_sl ([.int x, .int y]) ++ List.replicate (2 - (lg_sl ([.int x, .int y])).length) Slot.unset).toArray = ls at hl ⊢
  have hl : lv_has ls 2 [(0, .int x), (1, .int y)] := hl
  refine lv_iload_n hx hb d_SW_isWithin_0 rfl (lv_at hl 0 rfl) ?_
  refine lv_iload_n hx hb d_SW_isWithin_1 rfl (lv_at hl 1 rfl) ?_
  refine lv_ineg hx hb d_SW_isWithin_2 ?_
  refine lv_icmp_lt (tgt := 15) hx hb d_SW_isWithin_3 (by decide) (fun c_3 => ?_) (fun c_3 => ?_)
  · skip
    refine lv_iconst (v := 0) hx hb d_SW_isWithin_15 (by decide) ?_
    have hP9 := hP.sub (ws' := []) [] rfl
    have hD9 := hD.sub (ws' := []) [] (by decide) rfl
    exact W.zret (ty := .boolean) (v := 0) hx hb hr (rfl) (fun T9 hT9 hW9 => ⟨⟨0, (), rfl, by simp [sw_b, sw_wi, c_3], by rw [hT9]; exact hP9, hD9⟩, hS.F hT9⟩) hS.2.2 d_SW_isWithin_16
  · skip
    refine lv_iload_n hx hb d_SW_isWithin_6 rfl (lv_at hl 0 rfl) ?_
    refine lv_iload_n hx hb d_SW_isWithin_7 rfl (lv_at hl 1 rfl) ?_
    refine lv_icmp_gt (tgt := 15) hx hb d_SW_isWithin_8 (by decide) (fun c_8 => ?_) (fun c_8 => ?_)
    · skip
      refine lv_iconst (v := 0) hx hb d_SW_isWithin_15 (by decide) ?_
      have hP9 := hP.sub (ws' := []) [] rfl
      have hD9 := hD.sub (ws' := []) [] (by decide) rfl
      exact W.zret (ty := .boolean) (v := 0) hx hb hr (rfl) (fun T9 hT9 hW9 => ⟨⟨0, (), rfl, by simp [sw_b, sw_wi, c_3, c_8], by rw [hT9]; exact hP9, hD9⟩, hS.F hT9⟩) hS.2.2 d_SW_isWithin_16
    · skip
      refine lv_iconst (v := 1) hx hb d_SW_isWithin_11 (by decide) ?_
      refine lv_goto (tgt := 16) hx hb d_SW_isWithin_12 (by decide) ?_
      have hP9 := hP.sub (ws' := []) [] rfl
      have hD9 := hD.sub (ws' := []) [] (by decide) rfl
      exact W.zret (ty := .boolean) (v := 1) hx hb hr (rfl) (fun T9 hT9 hW9 => ⟨⟨1, (), rfl, by simp [sw_b, sw_wi, c_3, c_8], by rw [hT9]; exact hP9, hD9⟩, hS.F hT9⟩) hS.2.2 d_SW_isWithin_16

abbrev rm_SW_isPlaceOfWalker : Room := { frames := 1, cells := 0, slots := 0, locals := 21 }
abbrev q_SW_isPlaceOfWalker (D : va_G) (cI cL : ClassId) (A : Nat → Prop) (x : Int32) (y : Int32) : Array Value → State → Outcome → State → Prop := va_Qi (S := Unit) (fun (r : Int32) => fun (_ : Unit) => r = sw_b (sw_wi x 3000 && sw_wi y 3000)) (sw_R D A (fun (_ : Unit) => [])) A
set_option maxHeartbeats 4000000 in
set_option maxRecDepth 100000 in
theorem c_SW_isPlaceOfWalker (l : Launch) (D : va_G) (cI cL : ClassId) (tq sz : Nat) (x : Int32) (y : Int32) : Met l y_SW_isPlaceOfWalker w_SW_isPlaceOfWalker rm_SW_isPlaceOfWalker (va_Pc [.int x, .int y] (sw_B D cI cL tq sz [])) (q_SW_isPlaceOfWalker D cI cL (va_A [] sz) x y) 0 0 (va_A [] sz) := by
  refine Met.ofW (cc := b_SW_isPlaceOfWalker) (maxL := 2) (ret := (some .boolean)) (by decide) rfl ?_
  intro mp me s mm args below meth mk s₁ B hml hv
  obtain ⟨rfl, hsz, hP, hK, hD0, hG⟩ := hv
  have hx := B.exec
  have hb := B.bytes
  have hr := B.returns
  have hts := atoms_spec (ws := w_SW_isPlaceOfWalker) B.pre
  have hw : ∀ w ∈ sw_words, w.before _ s = true := fun w h => hts w (List.mem_cons_of_mem _ h)
  have hown : s.vm.findClass R_SW = some mm.cls := findClass_of_methodNamed B.named
  have hlocks := B.notSynchronized
  subst hsz
  have hD := hD0.self (sz := s.heap.size)
  generalize hAe : va_A [] s.heap.size = A at hD hG ⊢
  have hA : ∀ q : Nat, s.heap.size ≤ q → A q := fun q h => by rw [← hAe]; exact Or.inr h
  have hS : va_S A s.heap s.heap [] := va_S.rf
  have hl := lv_entry ([.int x, .int y]) (n := 2) (Nat.le_of_ble_eq_true rfl)
  rw [lg_entry_eq]
  generalize (lg_sl ([.int x, .int y]) ++ List.replicate (2 - (lg_sl ([.int x, .int y])).length) Slot.unset).toArray = ls at hl ⊢
  have hl : lv_has ls 2 [(0, .int x), (1, .int y)] := hl
  refine lv_iload_n hx hb d_SW_isPlaceOfWalker_0 rfl (lv_at hl 0 rfl) ?_
  refine lv_sipush (v := 3000) hx hb d_SW_isPlaceOfWalker_1 (by decide) ?_
  refine sw_ki0 (wr := []) (va_runS (As := [.int x, .int 3000]) (rest := []) ⟨hx, hb, hml, hown, hw⟩ (c_SW_isWithin l D cI cL tq _ x 3000) (cwS 2 hw (sw_gS kw_d0fc5bad kw_de2663c6 kw_7ea4a733 kc_SW_isWithin) rfl rfl rfl ⟨rfl, yd_SW_isWithin⟩ ⟨Nat.le_of_ble_eq_true rfl, Nat.le_of_ble_eq_true rfl⟩) (sw_preS hK hP hD hS hA hG [] rfl (by decide)) rfl rfl hl.1 rfl (lv_room (Nat.le_of_ble_eq_true rfl)) d_SW_isPlaceOfWalker_4 ⟨Nat.le_of_ble_eq_true rfl, Nat.le_of_ble_eq_true rfl⟩) hP hD hS hA [] [] rfl rfl (by decide) (by decide) (fun r_4 _ H locs hp_4 hP hD hS => ?_)
  replace hP : va_P D sw_cl [] H := hP
  replace hD : va_D A [] := hD
  try dsimp only at hp_4
  subst hp_4
  refine lv_if_eq (tgt := 24) hx hb d_SW_isPlaceOfWalker_7 (by decide) (fun c_7 => ?_) (fun c_7 => ?_)
  · skip
    replace c_7 := sw_b0.mp c_7
    refine lv_iconst (v := 0) hx hb d_SW_isPlaceOfWalker_24 (by decide) ?_
    have hP9 := hP.sub (ws' := []) [] rfl
    have hD9 := hD.sub (ws' := []) [] (by decide) rfl
    exact W.zret (ty := .boolean) (v := 0) hx hb hr (rfl) (fun T9 hT9 hW9 => ⟨⟨0, (), rfl, by simp [sw_b, c_7], by rw [hT9]; exact hP9, hD9⟩, hS.F hT9⟩) hS.2.2 d_SW_isPlaceOfWalker_25
  · skip
    replace c_7 := sw_bn.mp c_7
    refine lv_iload_n hx hb d_SW_isPlaceOfWalker_10 rfl (lv_at hl 1 rfl) ?_
    refine lv_sipush (v := 3000) hx hb d_SW_isPlaceOfWalker_11 (by decide) ?_
    refine sw_ki0 (wr := []) (va_runS (As := [.int y, .int 3000]) (rest := []) ⟨hx, hb, hml, hown, hw⟩ (c_SW_isWithin l D cI cL tq _ y 3000) (cwS 2 hw (sw_gS kw_d0fc5bad kw_de2663c6 kw_7ea4a733 kc_SW_isWithin) rfl rfl rfl ⟨rfl, yd_SW_isWithin⟩ ⟨Nat.le_of_ble_eq_true rfl, Nat.le_of_ble_eq_true rfl⟩) (sw_preS hK hP hD hS hA hG [] rfl (by decide)) rfl rfl hl.1 rfl (lv_room (Nat.le_of_ble_eq_true rfl)) d_SW_isPlaceOfWalker_14 ⟨Nat.le_of_ble_eq_true rfl, Nat.le_of_ble_eq_true rfl⟩) hP hD hS hA [] [] rfl rfl (by decide) (by decide) (fun r_14 _ H locs hp_14 hP hD hS => ?_)
    replace hP : va_P D sw_cl [] H := hP
    replace hD : va_D A [] := hD
    try dsimp only at hp_14
    subst hp_14
    refine lv_if_eq (tgt := 24) hx hb d_SW_isPlaceOfWalker_17 (by decide) (fun c_17 => ?_) (fun c_17 => ?_)
    · skip
      replace c_17 := sw_b0.mp c_17
      refine lv_iconst (v := 0) hx hb d_SW_isPlaceOfWalker_24 (by decide) ?_
      have hP9 := hP.sub (ws' := []) [] rfl
      have hD9 := hD.sub (ws' := []) [] (by decide) rfl
      exact W.zret (ty := .boolean) (v := 0) hx hb hr (rfl) (fun T9 hT9 hW9 => ⟨⟨0, (), rfl, by simp [sw_b, c_7, c_17], by rw [hT9]; exact hP9, hD9⟩, hS.F hT9⟩) hS.2.2 d_SW_isPlaceOfWalker_25
    · skip
      replace c_17 := sw_bn.mp c_17
      refine lv_iconst (v := 1) hx hb d_SW_isPlaceOfWalker_20 (by decide) ?_
      refine lv_goto (tgt := 25) hx hb d_SW_isPlaceOfWalker_21 (by decide) ?_
      have hP9 := hP.sub (ws' := []) [] rfl
      have hD9 := hD.sub (ws' := []) [] (by decide) rfl
      exact W.zret (ty := .boolean) (v := 1) hx hb hr (rfl) (fun T9 hT9 hW9 => ⟨⟨1, (), rfl, by simp [sw_b, c_7, c_17], by rw [hT9]; exact hP9, hD9⟩, hS.F hT9⟩) hS.2.2 d_SW_isPlaceOfWalker_25

abbrev rm_SW_isInput : Room := { frames := 1, cells := 0, slots := 0, locals := 21 }
abbrev q_SW_isInput (D : va_G) (cI cL : ClassId) (A : Nat → Prop) (x : Int32) (y : Int32) (z : Int32) : Array Value → State → Outcome → State → Prop := va_Qi (S := Unit) (fun (r : Int32) => fun (_ : Unit) => r = sw_b (sw_wi x 64 && sw_wi y 64 && sw_wi z 16)) (sw_R D A (fun (_ : Unit) => [])) A
set_option maxHeartbeats 4000000 in
set_option maxRecDepth 100000 in
theorem c_SW_isInput (l : Launch) (D : va_G) (cI cL : ClassId) (tq sz : Nat) (x : Int32) (y : Int32) (z : Int32) : Met l y_SW_isInput w_SW_isInput rm_SW_isInput (va_Pc [.int x, .int y, .int z] (sw_B D cI cL tq sz [])) (q_SW_isInput D cI cL (va_A [] sz) x y z) 0 0 (va_A [] sz) := by
  refine Met.ofW (cc := b_SW_isInput) (maxL := 3) (ret := (some .boolean)) (by decide) rfl ?_
  intro mp me s mm args below meth mk s₁ B hml hv
  obtain ⟨rfl, hsz, hP, hK, hD0, hG⟩ := hv
  have hx := B.exec
  have hb := B.bytes
  have hr := B.returns
  have hts := atoms_spec (ws := w_SW_isInput) B.pre
  have hw : ∀ w ∈ sw_words, w.before _ s = true := fun w h => hts w (List.mem_cons_of_mem _ h)
  have hown : s.vm.findClass R_SW = some mm.cls := findClass_of_methodNamed B.named
  have hlocks := B.notSynchronized
  subst hsz
  have hD := hD0.self (sz := s.heap.size)
  generalize hAe : va_A [] s.heap.size = A at hD hG ⊢
  have hA : ∀ q : Nat, s.heap.size ≤ q → A q := fun q h => by rw [← hAe]; exact Or.inr h
  have hS : va_S A s.heap s.heap [] := va_S.rf
  have hl := lv_entry ([.int x, .int y, .int z]) (n := 3) (Nat.le_of_ble_eq_true rfl)
  rw [lg_entry_eq]
  generalize (lg_sl ([.int x, .int y, .int z]) ++ List.replicate (3 - (lg_sl ([.int x, .int y, .int z])).length) Slot.unset).toArray = ls at hl ⊢
  have hl : lv_has ls 3 [(0, .int x), (1, .int y), (2, .int z)] := hl
  refine lv_iload_n hx hb d_SW_isInput_0 rfl (lv_at hl 0 rfl) ?_
  refine lv_bipush (v := 64) hx hb d_SW_isInput_1 (by decide) ?_
  refine sw_ki0 (wr := []) (va_runS (As := [.int x, .int 64]) (rest := []) ⟨hx, hb, hml, hown, hw⟩ (c_SW_isWithin l D cI cL tq _ x 64) (cwS 2 hw (sw_gS kw_d0fc5bad kw_de2663c6 kw_7ea4a733 kc_SW_isWithin) rfl rfl rfl ⟨rfl, yd_SW_isWithin⟩ ⟨Nat.le_of_ble_eq_true rfl, Nat.le_of_ble_eq_true rfl⟩) (sw_preS hK hP hD hS hA hG [] rfl (by decide)) rfl rfl hl.1 rfl (lv_room (Nat.le_of_ble_eq_true rfl)) d_SW_isInput_3 ⟨Nat.le_of_ble_eq_true rfl, Nat.le_of_ble_eq_true rfl⟩) hP hD hS hA [] [] rfl rfl (by decide) (by decide) (fun r_3 _ H locs hp_3 hP hD hS => ?_)
  replace hP : va_P D sw_cl [] H := hP
  replace hD : va_D A [] := hD
  try dsimp only at hp_3
  subst hp_3
  refine lv_if_eq (tgt := 31) hx hb d_SW_isInput_6 (by decide) (fun c_6 => ?_) (fun c_6 => ?_)
  · skip
    replace c_6 := sw_b0.mp c_6
    refine lv_iconst (v := 0) hx hb d_SW_isInput_31 (by decide) ?_
    have hP9 := hP.sub (ws' := []) [] rfl
    have hD9 := hD.sub (ws' := []) [] (by decide) rfl
    exact W.zret (ty := .boolean) (v := 0) hx hb hr (rfl) (fun T9 hT9 hW9 => ⟨⟨0, (), rfl, by simp [sw_b, c_6], by rw [hT9]; exact hP9, hD9⟩, hS.F hT9⟩) hS.2.2 d_SW_isInput_32
  · skip
    replace c_6 := sw_bn.mp c_6
    refine lv_iload_n hx hb d_SW_isInput_9 rfl (lv_at hl 1 rfl) ?_
    refine lv_bipush (v := 64) hx hb d_SW_isInput_10 (by decide) ?_
    refine sw_ki0 (wr := []) (va_runS (As := [.int y, .int 64]) (rest := []) ⟨hx, hb, hml, hown, hw⟩ (c_SW_isWithin l D cI cL tq _ y 64) (cwS 2 hw (sw_gS kw_d0fc5bad kw_de2663c6 kw_7ea4a733 kc_SW_isWithin) rfl rfl rfl ⟨rfl, yd_SW_isWithin⟩ ⟨Nat.le_of_ble_eq_true rfl, Nat.le_of_ble_eq_true rfl⟩) (sw_preS hK hP hD hS hA hG [] rfl (by decide)) rfl rfl hl.1 rfl (lv_room (Nat.le_of_ble_eq_true rfl)) d_SW_isInput_12 ⟨Nat.le_of_ble_eq_true rfl, Nat.le_of_ble_eq_true rfl⟩) hP hD hS hA [] [] rfl rfl (by decide) (by decide) (fun r_12 _ H locs hp_12 hP hD hS => ?_)
    replace hP : va_P D sw_cl [] H := hP
    replace hD : va_D A [] := hD
    try dsimp only at hp_12
    subst hp_12
    refine lv_if_eq (tgt := 31) hx hb d_SW_isInput_15 (by decide) (fun c_15 => ?_) (fun c_15 => ?_)
    · skip
      replace c_15 := sw_b0.mp c_15
      refine lv_iconst (v := 0) hx hb d_SW_isInput_31 (by decide) ?_
      have hP9 := hP.sub (ws' := []) [] rfl
      have hD9 := hD.sub (ws' := []) [] (by decide) rfl
      exact W.zret (ty := .boolean) (v := 0) hx hb hr (rfl) (fun T9 hT9 hW9 => ⟨⟨0, (), rfl, by simp [sw_b, c_6, c_15], by rw [hT9]; exact hP9, hD9⟩, hS.F hT9⟩) hS.2.2 d_SW_isInput_32
    · skip
      replace c_15 := sw_bn.mp c_15
      refine lv_iload_n hx hb d_SW_isInput_18 rfl (lv_at hl 2 rfl) ?_
      refine lv_bipush (v := 16) hx hb d_SW_isInput_19 (by decide) ?_
      refine sw_ki0 (wr := []) (va_runS (As := [.int z, .int 16]) (rest := []) ⟨hx, hb, hml, hown, hw⟩ (c_SW_isWithin l D cI cL tq _ z 16) (cwS 2 hw (sw_gS kw_d0fc5bad kw_de2663c6 kw_7ea4a733 kc_SW_isWithin) rfl rfl rfl ⟨rfl, yd_SW_isWithin⟩ ⟨Nat.le_of_ble_eq_true rfl, Nat.le_of_ble_eq_true rfl⟩) (sw_preS hK hP hD hS hA hG [] rfl (by decide)) rfl rfl hl.1 rfl (lv_room (Nat.le_of_ble_eq_true rfl)) d_SW_isInput_21 ⟨Nat.le_of_ble_eq_true rfl, Nat.le_of_ble_eq_true rfl⟩) hP hD hS hA [] [] rfl rfl (by decide) (by decide) (fun r_21 _ H locs hp_21 hP hD hS => ?_)
      replace hP : va_P D sw_cl [] H := hP
      replace hD : va_D A [] := hD
      try dsimp only at hp_21
      subst hp_21
      refine lv_if_eq (tgt := 31) hx hb d_SW_isInput_24 (by decide) (fun c_24 => ?_) (fun c_24 => ?_)
      · skip
        replace c_24 := sw_b0.mp c_24
        refine lv_iconst (v := 0) hx hb d_SW_isInput_31 (by decide) ?_
        have hP9 := hP.sub (ws' := []) [] rfl
        have hD9 := hD.sub (ws' := []) [] (by decide) rfl
        exact W.zret (ty := .boolean) (v := 0) hx hb hr (rfl) (fun T9 hT9 hW9 => ⟨⟨0, (), rfl, by simp [sw_b, c_6, c_15, c_24], by rw [hT9]; exact hP9, hD9⟩, hS.F hT9⟩) hS.2.2 d_SW_isInput_32
      · skip
        replace c_24 := sw_bn.mp c_24
        refine lv_iconst (v := 1) hx hb d_SW_isInput_27 (by decide) ?_
        refine lv_goto (tgt := 32) hx hb d_SW_isInput_28 (by decide) ?_
        have hP9 := hP.sub (ws' := []) [] rfl
        have hD9 := hD.sub (ws' := []) [] (by decide) rfl
        exact W.zret (ty := .boolean) (v := 1) hx hb hr (rfl) (fun T9 hT9 hW9 => ⟨⟨1, (), rfl, by simp [sw_b, c_6, c_15, c_24], by rw [hT9]; exact hP9, hD9⟩, hS.F hT9⟩) hS.2.2 d_SW_isInput_32

abbrev rm_SW_cross : Room := { frames := 0, cells := 0, slots := 0, locals := 0 }
abbrev q_SW_cross (D : va_G) (cI cL : ClassId) (A : Nat → Prop) (x : Int32) (y : Int32) (z : Int32) (v : Int32) : Array Value → State → Outcome → State → Prop := va_Qi (S := Unit) (fun (r : Int32) => fun (_ : Unit) => r = x * v - y * z) (sw_R D A (fun (_ : Unit) => [])) A
set_option maxHeartbeats 4000000 in
set_option maxRecDepth 100000 in
theorem c_SW_cross (l : Launch) (D : va_G) (cI cL : ClassId) (tq sz : Nat) (x : Int32) (y : Int32) (z : Int32) (v : Int32) : Met l y_SW_cross w_SW_cross rm_SW_cross (va_Pc [.int x, .int y, .int z, .int v] (sw_B D cI cL tq sz [])) (q_SW_cross D cI cL (va_A [] sz) x y z v) 0 0 (va_A [] sz) := by
  refine Met.ofW (cc := b_SW_cross) (maxL := 4) (ret := (some .int)) (by decide) rfl ?_
  intro mp me s mm args below meth mk s₁ B hml hv
  obtain ⟨rfl, hsz, hP, hK, hD0, hG⟩ := hv
  have hx := B.exec
  have hb := B.bytes
  have hr := B.returns
  have hts := atoms_spec (ws := w_SW_cross) B.pre
  have hw : ∀ w ∈ sw_words, w.before _ s = true := fun w h => hts w (List.mem_cons_of_mem _ h)
  have hown : s.vm.findClass R_SW = some mm.cls := findClass_of_methodNamed B.named
  have hlocks := B.notSynchronized
  subst hsz
  have hD := hD0.self (sz := s.heap.size)
  generalize hAe : va_A [] s.heap.size = A at hD hG ⊢
  have hA : ∀ q : Nat, s.heap.size ≤ q → A q := fun q h => by rw [← hAe]; exact Or.inr h
  have hS : va_S A s.heap s.heap [] := va_S.rf
  have hl := lv_entry ([.int x, .int y, .int z, .int v]) (n := 4) (Nat.le_of_ble_eq_true rfl)
  rw [lg_entry_eq]
  generalize (lg_sl ([.int x, .int y, .int z, .int v]) ++ List.replicate (4 - (lg_sl ([.int x, .int y, .int z, .int v])).length) Slot.unset).toArray = ls at hl ⊢
  have hl : lv_has ls 4 [(0, .int x), (1, .int y), (2, .int z), (3, .int v)] := hl
  refine lv_iload_n hx hb d_SW_cross_0 rfl (lv_at hl 0 rfl) ?_
  refine lv_iload_n hx hb d_SW_cross_1 rfl (lv_at hl 3 rfl) ?_
  refine lv_imul hx hb d_SW_cross_2 ?_
  refine lv_iload_n hx hb d_SW_cross_3 rfl (lv_at hl 1 rfl) ?_
  refine lv_iload_n hx hb d_SW_cross_4 rfl (lv_at hl 2 rfl) ?_
  refine lv_imul hx hb d_SW_cross_5 ?_
  refine lv_isub hx hb d_SW_cross_6 ?_
  have hP9 := hP.sub (ws' := []) [] rfl
  have hD9 := hD.sub (ws' := []) [] (by decide) rfl
  exact W.iret (v := (x * v) - (y * z)) hx hb hr (fun T9 hT9 hW9 => ⟨⟨(x * v) - (y * z), (), rfl, by rfl, by rw [hT9]; exact hP9, hD9⟩, hS.F hT9⟩) hS.2.2 d_SW_cross_7

abbrev rm_SW_cosineOf : Room := { frames := 1, cells := 0, slots := 0, locals := 22 }
abbrev q_SW_cosineOf (D : va_G) (cI cL : ClassId) (A : Nat → Prop) (x : Int32) : Array Value → State → Outcome → State → Prop := va_Qi (S := Unit) (fun (r : Int32) => fun (_ : Unit) => r = sw_cosf (sw_fm x 64)) (sw_R D A (fun (_ : Unit) => [])) A
set_option maxHeartbeats 4000000 in
set_option maxRecDepth 100000 in
theorem c_SW_cosineOf (l : Launch) (D : va_G) (cI cL : ClassId) (tq sz : Nat) (x : Int32) : Met l y_SW_cosineOf w_SW_cosineOf rm_SW_cosineOf (va_Pc [.int x] (sw_B D cI cL tq sz [])) (q_SW_cosineOf D cI cL (va_A [] sz) x) 0 0 (va_A [] sz) := by
  refine Met.ofW (cc := b_SW_cosineOf) (maxL := 3) (ret := (some .int)) (by decide) rfl ?_
  intro mp me s mm args below meth mk s₁ B hml hv
  obtain ⟨rfl, hsz, hP, hK, hD0, hG⟩ := hv
  have hx := B.exec
  have hb := B.bytes
  have hr := B.returns
  have hts := atoms_spec (ws := w_SW_cosineOf) B.pre
  have hw : ∀ w ∈ sw_words, w.before _ s = true := fun w h => hts w (List.mem_cons_of_mem _ h)
  have hown : s.vm.findClass R_SW = some mm.cls := findClass_of_methodNamed B.named
  have hlocks := B.notSynchronized
  subst hsz
  have hD := hD0.self (sz := s.heap.size)
  generalize hAe : va_A [] s.heap.size = A at hD hG ⊢
  have hA : ∀ q : Nat, s.heap.size ≤ q → A q := fun q h => by rw [← hAe]; exact Or.inr h
  have hS : va_S A s.heap s.heap [] := va_S.rf
  have hl := lv_entry ([.int x]) (n := 3) (Nat.le_of_ble_eq_true rfl)
  rw [lg_entry_eq]
  generalize (lg_sl ([.int x]) ++ List.replicate (3 - (lg_sl ([.int x])).length) Slot.unset).toArray = ls at hl ⊢
  have hl : lv_has ls 3 [(0, .int x)] := hl
  refine lv_iload_n hx hb d_SW_cosineOf_0 rfl (lv_at hl 0 rfl) ?_
  refine lv_bipush (v := 64) hx hb d_SW_cosineOf_1 (by decide) ?_
  refine sw_ki0 (wr := []) (va_runS (As := [.int x, .int 64]) (rest := []) ⟨hx, hb, hml, hown, hw⟩ (c_Math_floorMod l D cI cL tq _ x 64 (by decide)) (va_cwS 2 hw (sw_gT kw_a33f319e kw_464a0f65 kw_651ad336 kc_Math_floorMod) rfl rfl rfl yd_Math_floorMod ⟨Nat.le_of_ble_eq_true rfl, Nat.le_of_ble_eq_true rfl⟩) (sw_preS hK hP hD hS hA hG [] rfl (by decide)) rfl rfl hl.1 rfl (lv_room (Nat.le_of_ble_eq_true rfl)) d_SW_cosineOf_3 ⟨Nat.le_of_ble_eq_true rfl, Nat.le_of_ble_eq_true rfl⟩) hP hD hS hA [] [] rfl rfl (by decide) (by decide) (fun r_3 _ H locs hp_3 hP hD hS => ?_)
  try dsimp only at hp_3
  subst hp_3
  replace hP : va_P D sw_cl [] H := hP
  replace hD : va_D A [] := hD
  refine lv_topi (fun a e_a => ?_)
  refine lv_istore_n (lv' := [(1, .int a), (0, .int x)]) hx hb d_SW_cosineOf_6 rfl hl (by decide) rfl (fun ls hl => ?_)
  have ha1 : 0 ≤ a.toInt ∧ a.toInt < 64 := by rw [e_a]; exact sw_fm64 x
  refine lv_iload_n hx hb d_SW_cosineOf_7 rfl (lv_at hl 0 rfl) ?_
  refine lv_bipush (v := 32) hx hb d_SW_cosineOf_8 (by decide) ?_
  refine lv_icmp_gt (tgt := 17) hx hb d_SW_cosineOf_10 (by decide) (fun c_10 => ?_) (fun c_10 => ?_)
  · skip
    refine lv_bipush (v := 64) hx hb d_SW_cosineOf_17 (by decide) ?_
    refine lv_iload_n hx hb d_SW_cosineOf_19 rfl (lv_at hl 0 rfl) ?_
    refine lv_isub hx hb d_SW_cosineOf_20 ?_
    refine lv_istore_n (lv' := [(2, .int (64 - a)), (1, .int a), (0, .int x)]) hx hb d_SW_cosineOf_21 rfl hl (by decide) rfl (fun ls hl => ?_)
    refine lv_iload_n hx hb d_SW_cosineOf_22 rfl (lv_at hl 0 rfl) ?_
    refine lv_bipush (v := 16) hx hb d_SW_cosineOf_23 (by decide) ?_
    refine lv_icmp_gt (tgt := 34) hx hb d_SW_cosineOf_25 (by decide) (fun c_25 => ?_) (fun c_25 => ?_)
    · skip
      refine va_gets hx hb (v := .ref tq) (hG.1) hS hown (hw _ kw_9d0ddac9) (fun _ h9 => h9) d_SW_cosineOf_34 ?_
      refine lv_bipush (v := 32) hx hb d_SW_cosineOf_37 (by decide) ?_
      refine lv_iload_n hx hb d_SW_cosineOf_39 rfl (lv_at hl 0 rfl) ?_
      refine lv_isub hx hb d_SW_cosineOf_40 ?_
      refine va_ti hx hb (hG.2.1) hS (by first | exact sw_cin3 ha1 c_10 c_25 | exact sw_cin4 ha1 c_10 c_25) rfl d_SW_cosineOf_41 ?_
      refine lv_ineg hx hb d_SW_cosineOf_42 ?_
      have hP9 := hP.sub (ws' := []) [] rfl
      have hD9 := hD.sub (ws' := []) [] (by decide) rfl
      exact W.iret (v := -(sw_cos (32 - (64 - a)).toNatClampNeg)) hx hb hr (fun T9 hT9 hW9 => ⟨⟨-(sw_cos (32 - (64 - a)).toNatClampNeg), (), rfl, by subst e_a; simp [sw_cosf, c_10, c_25], by rw [hT9]; exact hP9, hD9⟩, hS.F hT9⟩) hS.2.2 d_SW_cosineOf_43
    · skip
      refine va_gets hx hb (v := .ref tq) (hG.1) hS hown (hw _ kw_9d0ddac9) (fun _ h9 => h9) d_SW_cosineOf_28 ?_
      refine lv_iload_n hx hb d_SW_cosineOf_31 rfl (lv_at hl 0 rfl) ?_
      refine va_ti hx hb (hG.2.1) hS (by first | exact sw_cin1 ha1 c_10 c_25 | exact sw_cin2 ha1 c_10 c_25) rfl d_SW_cosineOf_32 ?_
      have hP9 := hP.sub (ws' := []) [] rfl
      have hD9 := hD.sub (ws' := []) [] (by decide) rfl
      exact W.iret (v := sw_cos (64 - a).toNatClampNeg) hx hb hr (fun T9 hT9 hW9 => ⟨⟨sw_cos (64 - a).toNatClampNeg, (), rfl, by subst e_a; simp [sw_cosf, c_10, c_25], by rw [hT9]; exact hP9, hD9⟩, hS.F hT9⟩) hS.2.2 d_SW_cosineOf_33
  · skip
    refine lv_iload_n hx hb d_SW_cosineOf_13 rfl (lv_at hl 0 rfl) ?_
    refine lv_goto (tgt := 21) hx hb d_SW_cosineOf_14 (by decide) ?_
    refine lv_istore_n (lv' := [(2, .int a), (1, .int a), (0, .int x)]) hx hb d_SW_cosineOf_21 rfl hl (by decide) rfl (fun ls hl => ?_)
    refine lv_iload_n hx hb d_SW_cosineOf_22 rfl (lv_at hl 0 rfl) ?_
    refine lv_bipush (v := 16) hx hb d_SW_cosineOf_23 (by decide) ?_
    refine lv_icmp_gt (tgt := 34) hx hb d_SW_cosineOf_25 (by decide) (fun c_25 => ?_) (fun c_25 => ?_)
    · skip
      refine va_gets hx hb (v := .ref tq) (hG.1) hS hown (hw _ kw_9d0ddac9) (fun _ h9 => h9) d_SW_cosineOf_34 ?_
      refine lv_bipush (v := 32) hx hb d_SW_cosineOf_37 (by decide) ?_
      refine lv_iload_n hx hb d_SW_cosineOf_39 rfl (lv_at hl 0 rfl) ?_
      refine lv_isub hx hb d_SW_cosineOf_40 ?_
      refine va_ti hx hb (hG.2.1) hS (by first | exact sw_cin3 ha1 c_10 c_25 | exact sw_cin4 ha1 c_10 c_25) rfl d_SW_cosineOf_41 ?_
      refine lv_ineg hx hb d_SW_cosineOf_42 ?_
      have hP9 := hP.sub (ws' := []) [] rfl
      have hD9 := hD.sub (ws' := []) [] (by decide) rfl
      exact W.iret (v := -(sw_cos (32 - a).toNatClampNeg)) hx hb hr (fun T9 hT9 hW9 => ⟨⟨-(sw_cos (32 - a).toNatClampNeg), (), rfl, by subst e_a; simp [sw_cosf, c_10, c_25], by rw [hT9]; exact hP9, hD9⟩, hS.F hT9⟩) hS.2.2 d_SW_cosineOf_43
    · skip
      refine va_gets hx hb (v := .ref tq) (hG.1) hS hown (hw _ kw_9d0ddac9) (fun _ h9 => h9) d_SW_cosineOf_28 ?_
      refine lv_iload_n hx hb d_SW_cosineOf_31 rfl (lv_at hl 0 rfl) ?_
      refine va_ti hx hb (hG.2.1) hS (by first | exact sw_cin1 ha1 c_10 c_25 | exact sw_cin2 ha1 c_10 c_25) rfl d_SW_cosineOf_32 ?_
      have hP9 := hP.sub (ws' := []) [] rfl
      have hD9 := hD.sub (ws' := []) [] (by decide) rfl
      exact W.iret (v := sw_cos a.toNatClampNeg) hx hb hr (fun T9 hT9 hW9 => ⟨⟨sw_cos a.toNatClampNeg, (), rfl, by subst e_a; simp [sw_cosf, c_10, c_25], by rw [hT9]; exact hP9, hD9⟩, hS.F hT9⟩) hS.2.2 d_SW_cosineOf_33

abbrev rm_Pl_hasVertex : Room := { frames := 0, cells := 0, slots := 0, locals := 0 }
abbrev q_Pl_hasVertex (D : va_G) (cI cL : ClassId) (A : Nat → Prop) (p : Nat) (x : Int32) (pX : Nat) (pY : Nat) (pF : Nat) (pC : Nat) (pA : Nat) (pB : Nat) (pR : Nat) (pK : Nat) (nv : Int32) (ns : Int32) (nw : Int32) : Array Value → State → Outcome → State → Prop := va_Qi (S := Unit) (fun (r : Int32) => fun (_ : Unit) => r = sw_b (sw_hv x nv)) (sw_R D A (fun (_ : Unit) => [(p, .inr (1, [.ref pX, .ref pY, .ref pF, .ref pC, .ref pA, .ref pB, .ref pR, .ref pK, .int nv, .int ns, .int nw]))])) A
set_option maxHeartbeats 4000000 in
set_option maxRecDepth 100000 in
theorem c_Pl_hasVertex (l : Launch) (D : va_G) (cI cL : ClassId) (tq sz : Nat) (p : Nat) (x : Int32) (pX : Nat) (pY : Nat) (pF : Nat) (pC : Nat) (pA : Nat) (pB : Nat) (pR : Nat) (pK : Nat) (nv : Int32) (ns : Int32) (nw : Int32) : Met l y_Pl_hasVertex w_Pl_hasVertex rm_Pl_hasVertex (va_Pc [.ref p, .int x] (sw_B D cI cL tq sz [(p, .inr (1, [.ref pX, .ref pY, .ref pF, .ref pC, .ref pA, .ref pB, .ref pR, .ref pK, .int nv, .int ns, .int nw]))])) (q_Pl_hasVertex D cI cL (va_A [(p, .inr (1, [.ref pX, .ref pY, .ref pF, .ref pC, .ref pA, .ref pB, .ref pR, .ref pK, .int nv, .int ns, .int nw]))] sz) p x pX pY pF pC pA pB pR pK nv ns nw) 0 0 (va_A [(p, .inr (1, [.ref pX, .ref pY, .ref pF, .ref pC, .ref pA, .ref pB, .ref pR, .ref pK, .int nv, .int ns, .int nw]))] sz) := by
  refine Met.ofW (cc := b_Pl_hasVertex) (maxL := 2) (ret := (some .boolean)) (by decide) rfl ?_
  intro mp me s mm args below meth mk s₁ B hml hv
  obtain ⟨rfl, hsz, hP, hK, hD0, hG⟩ := hv
  have hx := B.exec
  have hb := B.bytes
  have hr := B.returns
  have hts := atoms_spec (ws := w_Pl_hasVertex) B.pre
  have hw : ∀ w ∈ sw_words, w.before _ s = true := fun w h => hts w (List.mem_cons_of_mem _ h)
  have hown : s.vm.findClass R_Pl = some mm.cls := findClass_of_methodNamed B.named
  have hlocks := B.notSynchronized
  subst hsz
  have hD := hD0.self (sz := s.heap.size)
  generalize hAe : va_A [(p, .inr (1, [.ref pX, .ref pY, .ref pF, .ref pC, .ref pA, .ref pB, .ref pR, .ref pK, .int nv, .int ns, .int nw]))] s.heap.size = A at hD hG ⊢
  have hA : ∀ q : Nat, s.heap.size ≤ q → A q := fun q h => by rw [← hAe]; exact Or.inr h
  have hS : va_S A s.heap s.heap [] := va_S.rf
  have hl := lv_entry ([.ref p, .int x]) (n := 2) (Nat.le_of_ble_eq_true rfl)
  rw [lg_entry_eq]
  generalize (lg_sl ([.ref p, .int x]) ++ List.replicate (2 - (lg_sl ([.ref p, .int x])).length) Slot.unset).toArray = ls at hl ⊢
  have hl : lv_has ls 2 [(0, .ref p), (1, .int x)] := hl
  refine lv_iload_n hx hb d_Pl_hasVertex_0 rfl (lv_at hl 1 rfl) ?_
  refine lv_if_lt (tgt := 16) hx hb d_Pl_hasVertex_1 (by decide) (fun c_1 => ?_) (fun c_1 => ?_)
  · skip
    refine lv_iconst (v := 0) hx hb d_Pl_hasVertex_16 (by decide) ?_
    have hP9 := hP.sub (ws' := [(p, .inr (1, [.ref pX, .ref pY, .ref pF, .ref pC, .ref pA, .ref pB, .ref pR, .ref pK, .int nv, .int ns, .int nw]))]) [0] rfl
    have hD9 := hD.sub (ws' := [(p, .inr (1, [.ref pX, .ref pY, .ref pF, .ref pC, .ref pA, .ref pB, .ref pR, .ref pK, .int nv, .int ns, .int nw]))]) [0] (by decide) rfl
    exact W.zret (ty := .boolean) (v := 0) hx hb hr (rfl) (fun T9 hT9 hW9 => ⟨⟨0, (), rfl, by simp [sw_b, sw_hv, c_1], by rw [hT9]; exact hP9, hD9⟩, hS.F hT9⟩) hS.2.2 d_Pl_hasVertex_17
  · skip
    refine lv_iload_n hx hb d_Pl_hasVertex_4 rfl (lv_at hl 1 rfl) ?_
    refine lv_aload_n hx hb d_Pl_hasVertex_5 rfl (lv_at hl 0 rfl) ?_
    refine va_get (D := D) (ci := 1) (v := .int nv) (C := R_Pl) (T := F_Pl) (N := 11) hx hb hw ku_Pl hown hK hP 0 rfl rfl 8 (by decide) (hw _ kw_ae77367f) (fun _ h9 => h9) rfl d_Pl_hasVertex_6 ?_
    refine lv_icmp_ge (tgt := 16) hx hb d_Pl_hasVertex_9 (by decide) (fun c_9 => ?_) (fun c_9 => ?_)
    · skip
      refine lv_iconst (v := 0) hx hb d_Pl_hasVertex_16 (by decide) ?_
      have hP9 := hP.sub (ws' := [(p, .inr (1, [.ref pX, .ref pY, .ref pF, .ref pC, .ref pA, .ref pB, .ref pR, .ref pK, .int nv, .int ns, .int nw]))]) [0] rfl
      have hD9 := hD.sub (ws' := [(p, .inr (1, [.ref pX, .ref pY, .ref pF, .ref pC, .ref pA, .ref pB, .ref pR, .ref pK, .int nv, .int ns, .int nw]))]) [0] (by decide) rfl
      exact W.zret (ty := .boolean) (v := 0) hx hb hr (rfl) (fun T9 hT9 hW9 => ⟨⟨0, (), rfl, by simp [sw_b, sw_hv, c_1, c_9], by rw [hT9]; exact hP9, hD9⟩, hS.F hT9⟩) hS.2.2 d_Pl_hasVertex_17
    · skip
      refine lv_iconst (v := 1) hx hb d_Pl_hasVertex_12 (by decide) ?_
      refine lv_goto (tgt := 17) hx hb d_Pl_hasVertex_13 (by decide) ?_
      have hP9 := hP.sub (ws' := [(p, .inr (1, [.ref pX, .ref pY, .ref pF, .ref pC, .ref pA, .ref pB, .ref pR, .ref pK, .int nv, .int ns, .int nw]))]) [0] rfl
      have hD9 := hD.sub (ws' := [(p, .inr (1, [.ref pX, .ref pY, .ref pF, .ref pC, .ref pA, .ref pB, .ref pR, .ref pK, .int nv, .int ns, .int nw]))]) [0] (by decide) rfl
      exact W.zret (ty := .boolean) (v := 1) hx hb hr (rfl) (fun T9 hT9 hW9 => ⟨⟨1, (), rfl, by simp [sw_b, sw_hv, c_1, c_9], by rw [hT9]; exact hP9, hD9⟩, hS.F hT9⟩) hS.2.2 d_Pl_hasVertex_17

abbrev rm_Pl_hasSector : Room := { frames := 0, cells := 0, slots := 0, locals := 0 }
abbrev q_Pl_hasSector (D : va_G) (cI cL : ClassId) (A : Nat → Prop) (p : Nat) (x : Int32) (pX : Nat) (pY : Nat) (pF : Nat) (pC : Nat) (pA : Nat) (pB : Nat) (pR : Nat) (pK : Nat) (nv : Int32) (ns : Int32) (nw : Int32) : Array Value → State → Outcome → State → Prop := va_Qi (S := Unit) (fun (r : Int32) => fun (_ : Unit) => r = sw_b (sw_hv x ns)) (sw_R D A (fun (_ : Unit) => [(p, .inr (1, [.ref pX, .ref pY, .ref pF, .ref pC, .ref pA, .ref pB, .ref pR, .ref pK, .int nv, .int ns, .int nw]))])) A
set_option maxHeartbeats 4000000 in
set_option maxRecDepth 100000 in
theorem c_Pl_hasSector (l : Launch) (D : va_G) (cI cL : ClassId) (tq sz : Nat) (p : Nat) (x : Int32) (pX : Nat) (pY : Nat) (pF : Nat) (pC : Nat) (pA : Nat) (pB : Nat) (pR : Nat) (pK : Nat) (nv : Int32) (ns : Int32) (nw : Int32) : Met l y_Pl_hasSector w_Pl_hasSector rm_Pl_hasSector (va_Pc [.ref p, .int x] (sw_B D cI cL tq sz [(p, .inr (1, [.ref pX, .ref pY, .ref pF, .ref pC, .ref pA, .ref pB, .ref pR, .ref pK, .int nv, .int ns, .int nw]))])) (q_Pl_hasSector D cI cL (va_A [(p, .inr (1, [.ref pX, .ref pY, .ref pF, .ref pC, .ref pA, .ref pB, .ref pR, .ref pK, .int nv, .int ns, .int nw]))] sz) p x pX pY pF pC pA pB pR pK nv ns nw) 0 0 (va_A [(p, .inr (1, [.ref pX, .ref pY, .ref pF, .ref pC, .ref pA, .ref pB, .ref pR, .ref pK, .int nv, .int ns, .int nw]))] sz) := by
  refine Met.ofW (cc := b_Pl_hasSector) (maxL := 2) (ret := (some .boolean)) (by decide) rfl ?_
  intro mp me s mm args below meth mk s₁ B hml hv
  obtain ⟨rfl, hsz, hP, hK, hD0, hG⟩ := hv
  have hx := B.exec
  have hb := B.bytes
  have hr := B.returns
  have hts := atoms_spec (ws := w_Pl_hasSector) B.pre
  have hw : ∀ w ∈ sw_words, w.before _ s = true := fun w h => hts w (List.mem_cons_of_mem _ h)
  have hown : s.vm.findClass R_Pl = some mm.cls := findClass_of_methodNamed B.named
  have hlocks := B.notSynchronized
  subst hsz
  have hD := hD0.self (sz := s.heap.size)
  generalize hAe : va_A [(p, .inr (1, [.ref pX, .ref pY, .ref pF, .ref pC, .ref pA, .ref pB, .ref pR, .ref pK, .int nv, .int ns, .int nw]))] s.heap.size = A at hD hG ⊢
  have hA : ∀ q : Nat, s.heap.size ≤ q → A q := fun q h => by rw [← hAe]; exact Or.inr h
  have hS : va_S A s.heap s.heap [] := va_S.rf
  have hl := lv_entry ([.ref p, .int x]) (n := 2) (Nat.le_of_ble_eq_true rfl)
  rw [lg_entry_eq]
  generalize (lg_sl ([.ref p, .int x]) ++ List.replicate (2 - (lg_sl ([.ref p, .int x])).length) Slot.unset).toArray = ls at hl ⊢
  have hl : lv_has ls 2 [(0, .ref p), (1, .int x)] := hl
  refine lv_iload_n hx hb d_Pl_hasSector_0 rfl (lv_at hl 1 rfl) ?_
  refine lv_if_lt (tgt := 16) hx hb d_Pl_hasSector_1 (by decide) (fun c_1 => ?_) (fun c_1 => ?_)
  · skip
    refine lv_iconst (v := 0) hx hb d_Pl_hasSector_16 (by decide) ?_
    have hP9 := hP.sub (ws' := [(p, .inr (1, [.ref pX, .ref pY, .ref pF, .ref pC, .ref pA, .ref pB, .ref pR, .ref pK, .int nv, .int ns, .int nw]))]) [0] rfl
    have hD9 := hD.sub (ws' := [(p, .inr (1, [.ref pX, .ref pY, .ref pF, .ref pC, .ref pA, .ref pB, .ref pR, .ref pK, .int nv, .int ns, .int nw]))]) [0] (by decide) rfl
    exact W.zret (ty := .boolean) (v := 0) hx hb hr (rfl) (fun T9 hT9 hW9 => ⟨⟨0, (), rfl, by simp [sw_b, sw_hv, c_1], by rw [hT9]; exact hP9, hD9⟩, hS.F hT9⟩) hS.2.2 d_Pl_hasSector_17
  · skip
    refine lv_iload_n hx hb d_Pl_hasSector_4 rfl (lv_at hl 1 rfl) ?_
    refine lv_aload_n hx hb d_Pl_hasSector_5 rfl (lv_at hl 0 rfl) ?_
    refine va_get (D := D) (ci := 1) (v := .int ns) (C := R_Pl) (T := F_Pl) (N := 11) hx hb hw ku_Pl hown hK hP 0 rfl rfl 9 (by decide) (hw _ kw_8591057a) (fun _ h9 => h9) rfl d_Pl_hasSector_6 ?_
    refine lv_icmp_ge (tgt := 16) hx hb d_Pl_hasSector_9 (by decide) (fun c_9 => ?_) (fun c_9 => ?_)
    · skip
      refine lv_iconst (v := 0) hx hb d_Pl_hasSector_16 (by decide) ?_
      have hP9 := hP.sub (ws' := [(p, .inr (1, [.ref pX, .ref pY, .ref pF, .ref pC, .ref pA, .ref pB, .ref pR, .ref pK, .int nv, .int ns, .int nw]))]) [0] rfl
      have hD9 := hD.sub (ws' := [(p, .inr (1, [.ref pX, .ref pY, .ref pF, .ref pC, .ref pA, .ref pB, .ref pR, .ref pK, .int nv, .int ns, .int nw]))]) [0] (by decide) rfl
      exact W.zret (ty := .boolean) (v := 0) hx hb hr (rfl) (fun T9 hT9 hW9 => ⟨⟨0, (), rfl, by simp [sw_b, sw_hv, c_1, c_9], by rw [hT9]; exact hP9, hD9⟩, hS.F hT9⟩) hS.2.2 d_Pl_hasSector_17
    · skip
      refine lv_iconst (v := 1) hx hb d_Pl_hasSector_12 (by decide) ?_
      refine lv_goto (tgt := 17) hx hb d_Pl_hasSector_13 (by decide) ?_
      have hP9 := hP.sub (ws' := [(p, .inr (1, [.ref pX, .ref pY, .ref pF, .ref pC, .ref pA, .ref pB, .ref pR, .ref pK, .int nv, .int ns, .int nw]))]) [0] rfl
      have hD9 := hD.sub (ws' := [(p, .inr (1, [.ref pX, .ref pY, .ref pF, .ref pC, .ref pA, .ref pB, .ref pR, .ref pK, .int nv, .int ns, .int nw]))]) [0] (by decide) rfl
      exact W.zret (ty := .boolean) (v := 1) hx hb hr (rfl) (fun T9 hT9 hW9 => ⟨⟨1, (), rfl, by simp [sw_b, sw_hv, c_1, c_9], by rw [hT9]; exact hP9, hD9⟩, hS.F hT9⟩) hS.2.2 d_Pl_hasSector_17

abbrev rm_Pl_isTaken : Room := { frames := 0, cells := 0, slots := 0, locals := 0 }
abbrev q_Pl_isTaken (D : va_G) (cI cL : ClassId) (A : Nat → Prop) (p : Nat) (x : Int32) (y : Int32) (pX : Nat) (pY : Nat) (pF : Nat) (pC : Nat) (pA : Nat) (pB : Nat) (pR : Nat) (pK : Nat) (nv : Int32) (ns : Int32) (nw : Int32) (vx : Nat → Int32) (vy : Nat → Int32) : Array Value → State → Outcome → State → Prop := va_Qi (S := Unit) (fun (r : Int32) => fun (_ : Unit) => r = sw_b (sw_tk vx vy x y nv.toNatClampNeg)) (sw_R D A (fun (_ : Unit) => [(p, .inr (1, [.ref pX, .ref pY, .ref pF, .ref pC, .ref pA, .ref pB, .ref pR, .ref pK, .int nv, .int ns, .int nw])), (pX, .inl (cI, 64, .inl vx)), (pY, .inl (cI, 64, .inl vy))])) A
set_option maxHeartbeats 4000000 in
set_option maxRecDepth 100000 in
theorem c_Pl_isTaken (l : Launch) (D : va_G) (cI cL : ClassId) (tq sz : Nat) (p : Nat) (x : Int32) (y : Int32) (pX : Nat) (pY : Nat) (pF : Nat) (pC : Nat) (pA : Nat) (pB : Nat) (pR : Nat) (pK : Nat) (nv : Int32) (ns : Int32) (nw : Int32) (vx : Nat → Int32) (vy : Nat → Int32) (hn : sw_ok nv 64) : Met l y_Pl_isTaken w_Pl_isTaken rm_Pl_isTaken (va_Pc [.ref p, .int x, .int y] (sw_B D cI cL tq sz [(p, .inr (1, [.ref pX, .ref pY, .ref pF, .ref pC, .ref pA, .ref pB, .ref pR, .ref pK, .int nv, .int ns, .int nw])), (pX, .inl (cI, 64, .inl vx)), (pY, .inl (cI, 64, .inl vy))])) (q_Pl_isTaken D cI cL (va_A [(p, .inr (1, [.ref pX, .ref pY, .ref pF, .ref pC, .ref pA, .ref pB, .ref pR, .ref pK, .int nv, .int ns, .int nw])), (pX, .inl (cI, 64, .inl vx)), (pY, .inl (cI, 64, .inl vy))] sz) p x y pX pY pF pC pA pB pR pK nv ns nw vx vy) 0 0 (va_A [(p, .inr (1, [.ref pX, .ref pY, .ref pF, .ref pC, .ref pA, .ref pB, .ref pR, .ref pK, .int nv, .int ns, .int nw])), (pX, .inl (cI, 64, .inl vx)), (pY, .inl (cI, 64, .inl vy))] sz) := by
  refine Met.ofW (cc := b_Pl_isTaken) (maxL := 4) (ret := (some .boolean)) (by decide) rfl ?_
  intro mp me s mm args below meth mk s₁ B hml hv
  obtain ⟨rfl, hsz, hP, hK, hD0, hG⟩ := hv
  have hx := B.exec
  have hb := B.bytes
  have hr := B.returns
  have hts := atoms_spec (ws := w_Pl_isTaken) B.pre
  have hw : ∀ w ∈ sw_words, w.before _ s = true := fun w h => hts w (List.mem_cons_of_mem _ h)
  have hown : s.vm.findClass R_Pl = some mm.cls := findClass_of_methodNamed B.named
  have hlocks := B.notSynchronized
  subst hsz
  have hD := hD0.self (sz := s.heap.size)
  generalize hAe : va_A [(p, .inr (1, [.ref pX, .ref pY, .ref pF, .ref pC, .ref pA, .ref pB, .ref pR, .ref pK, .int nv, .int ns, .int nw])), (pX, .inl (cI, 64, .inl vx)), (pY, .inl (cI, 64, .inl vy))] s.heap.size = A at hD hG ⊢
  have hA : ∀ q : Nat, s.heap.size ≤ q → A q := fun q h => by rw [← hAe]; exact Or.inr h
  have hS : va_S A s.heap s.heap [] := va_S.rf
  have hl := lv_entry ([.ref p, .int x, .int y]) (n := 4) (Nat.le_of_ble_eq_true rfl)
  rw [lg_entry_eq]
  generalize (lg_sl ([.ref p, .int x, .int y]) ++ List.replicate (4 - (lg_sl ([.ref p, .int x, .int y])).length) Slot.unset).toArray = ls at hl ⊢
  have hl : lv_has ls 4 [(0, .ref p), (1, .int x), (2, .int y)] := hl
  refine lv_iconst (v := 0) hx hb d_Pl_isTaken_0 (by decide) ?_
  refine lv_istore_n (lv' := [(3, .int 0), (0, .ref p), (1, .int x), (2, .int y)]) hx hb d_Pl_isTaken_1 rfl hl (by decide) rfl (fun ls hl => ?_)
  have lp_2 : ∀ (n : Nat) (k : Nat) (i : Int32) (H : Heap) (locs : List Loc) (ls : Array Slot), (i = nI k) → (k ≤ nv.toNatClampNeg) → (sw_tk vx vy x y k = false) → (nv.toNatClampNeg - k) < n → va_P D sw_cl [(p, .inr (1, [.ref pX, .ref pY, .ref pF, .ref pC, .ref pA, .ref pB, .ref pR, .ref pK, .int nv, .int ns, .int nw])), (pX, .inl (cI, 64, .inl vx)), (pY, .inl (cI, 64, .inl vy))] H → va_D A [(p, .inr (1, [.ref pX, .ref pY, .ref pF, .ref pC, .ref pA, .ref pB, .ref pR, .ref pK, .int nv, .int ns, .int nw])), (pX, .inl (cI, 64, .inl vx)), (pY, .inl (cI, 64, .inl vy))] → va_S A s.heap H locs → lv_has ls 4 [(0, .ref p), (1, .int x), (2, .int y), (3, .int i)] → W mp l me (headSpec w_Pl_isTaken rm_Pl_isTaken).room s mm ([.ref p, .int x, .int y]).toArray below meth mk H locs 0 0 (MQ below (q_Pl_isTaken D cI cL A p x y pX pY pF pC pA pB pR pK nv ns nw vx vy) ([.ref p, .int x, .int y]).toArray s 0 0 A) (F0 mm 2 ls []) := by
    intro n
    induction n with
    | zero => intro k i H locs ls hi hk ht hm; exact absurd hm (Nat.not_lt_zero _)
    | succ n ih_2 =>
      intro k i H locs ls hi hk ht hm hP hD hS hl
      refine lv_iload_n hx hb d_Pl_isTaken_2 rfl (lv_at hl 3 rfl) ?_
      refine lv_aload_n hx hb d_Pl_isTaken_3 rfl (lv_at hl 0 rfl) ?_
      refine va_get (D := D) (ci := 1) (v := .int nv) (C := R_Pl) (T := F_Pl) (N := 11) hx hb hw ku_Pl hown hK hP 0 rfl rfl 8 (by decide) (hw _ kw_ae77367f) (fun _ h9 => h9) rfl d_Pl_isTaken_4 ?_
      refine lv_icmp_ge (tgt := 38) hx hb d_Pl_isTaken_7 (by decide) (fun c_7 => ?_) (fun c_7 => ?_)
      · skip
        refine lv_iconst (v := 0) hx hb d_Pl_isTaken_38 (by decide) ?_
        have hP9 := hP.sub (ws' := [(p, .inr (1, [.ref pX, .ref pY, .ref pF, .ref pC, .ref pA, .ref pB, .ref pR, .ref pK, .int nv, .int ns, .int nw])), (pX, .inl (cI, 64, .inl vx)), (pY, .inl (cI, 64, .inl vy))]) [0, 1, 2] rfl
        have hD9 := hD.sub (ws' := [(p, .inr (1, [.ref pX, .ref pY, .ref pF, .ref pC, .ref pA, .ref pB, .ref pR, .ref pK, .int nv, .int ns, .int nw])), (pX, .inl (cI, 64, .inl vx)), (pY, .inl (cI, 64, .inl vy))]) [0, 1, 2] (by decide) rfl
        exact W.zret (ty := .boolean) (v := 0) hx hb hr (rfl) (fun T9 hT9 hW9 => ⟨⟨0, (), rfl, by rw [sw_end hn (by decide) hi hk c_7, ht]; rfl, by rw [hT9]; exact hP9, hD9⟩, hS.F hT9⟩) hS.2.2 d_Pl_isTaken_39
      · skip
        have hkn : k < nv.toNatClampNeg := sw_nle hn (by decide) hi hk c_7
        have hn6 := hn.2
        have hki : i.toNatClampNeg = k := by rw [hi]; exact nI_clamp (by omega)
        refine lv_aload_n hx hb d_Pl_isTaken_10 rfl (lv_at hl 0 rfl) ?_
        refine va_get (D := D) (ci := 1) (v := .ref pX) (C := R_Pl) (T := F_Pl) (N := 11) hx hb hw ku_Pl hown hK hP 0 rfl rfl 0 (by decide) (hw _ kw_8234c2ed) (fun _ h9 => h9) rfl d_Pl_isTaken_11 ?_
        refine lv_iload_n hx hb d_Pl_isTaken_14 rfl (lv_at hl 3 rfl) ?_
        refine va_iald hx hb hK hP 1 0 rfl rfl (by rw [hi]; exact vp_in_nI (by omega) (by omega)) d_Pl_isTaken_15 ?_
        refine lv_iload_n hx hb d_Pl_isTaken_16 rfl (lv_at hl 1 rfl) ?_
        refine lv_icmp_ne (tgt := 32) hx hb d_Pl_isTaken_17 (by decide) (fun c_17 => ?_) (fun c_17 => ?_)
        · skip
          try rw [hki] at c_17
          try rw [hki] at c_27
          refine lv_iinc (v := i + 1) (lv' := [(3, .int (i + 1)), (0, .ref p), (1, .int x), (2, .int y)]) hx hb d_Pl_isTaken_32 hl (k := 3) rfl rfl (by decide) rfl (fun ls hl => ?_)
          refine lv_goto (tgt := 2) hx hb d_Pl_isTaken_35 (by decide) ?_
          exact ih_2 (k + 1) (i + 1) _ _ _ (by rw [hi]; exact nI_1 k) (hkn) (by simp [sw_tk, ht, hi, hk, ht, c_7, c_17]) (by omega) (hP.sub [0, 1, 2] rfl) (hD.sub [0, 1, 2] (by decide) rfl) hS (lv_sub hl [1, 2, 3, 0] rfl)
        · skip
          rw [hki] at c_17
          refine lv_aload_n hx hb d_Pl_isTaken_20 rfl (lv_at hl 0 rfl) ?_
          refine va_get (D := D) (ci := 1) (v := .ref pY) (C := R_Pl) (T := F_Pl) (N := 11) hx hb hw ku_Pl hown hK hP 0 rfl rfl 1 (by decide) (hw _ kw_c8115e4c) (fun _ h9 => h9) rfl d_Pl_isTaken_21 ?_
          refine lv_iload_n hx hb d_Pl_isTaken_24 rfl (lv_at hl 3 rfl) ?_
          refine va_iald hx hb hK hP 2 0 rfl rfl (by rw [hi]; exact vp_in_nI (by omega) (by omega)) d_Pl_isTaken_25 ?_
          refine lv_iload_n hx hb d_Pl_isTaken_26 rfl (lv_at hl 2 rfl) ?_
          refine lv_icmp_ne (tgt := 32) hx hb d_Pl_isTaken_27 (by decide) (fun c_27 => ?_) (fun c_27 => ?_)
          · skip
            try rw [hki] at c_17
            try rw [hki] at c_27
            refine lv_iinc (v := i + 1) (lv' := [(3, .int (i + 1)), (0, .ref p), (1, .int x), (2, .int y)]) hx hb d_Pl_isTaken_32 hl (k := 3) rfl rfl (by decide) rfl (fun ls hl => ?_)
            refine lv_goto (tgt := 2) hx hb d_Pl_isTaken_35 (by decide) ?_
            exact ih_2 (k + 1) (i + 1) _ _ _ (by rw [hi]; exact nI_1 k) (hkn) (by simp [sw_tk, ht, hi, hk, ht, c_7, c_17, c_27]) (by omega) (hP.sub [0, 1, 2] rfl) (hD.sub [0, 1, 2] (by decide) rfl) hS (lv_sub hl [1, 2, 3, 0] rfl)
          · skip
            rw [hki] at c_27
            refine lv_iconst (v := 1) hx hb d_Pl_isTaken_30 (by decide) ?_
            have hP9 := hP.sub (ws' := [(p, .inr (1, [.ref pX, .ref pY, .ref pF, .ref pC, .ref pA, .ref pB, .ref pR, .ref pK, .int nv, .int ns, .int nw])), (pX, .inl (cI, 64, .inl vx)), (pY, .inl (cI, 64, .inl vy))]) [0, 1, 2] rfl
            have hD9 := hD.sub (ws' := [(p, .inr (1, [.ref pX, .ref pY, .ref pF, .ref pC, .ref pA, .ref pB, .ref pR, .ref pK, .int nv, .int ns, .int nw])), (pX, .inl (cI, 64, .inl vx)), (pY, .inl (cI, 64, .inl vy))]) [0, 1, 2] (by decide) rfl
            exact W.zret (ty := .boolean) (v := 1) hx hb hr (rfl) (fun T9 hT9 hW9 => ⟨⟨1, (), rfl, by rw [sw_tk_hit hkn c_17 c_27]; rfl, by rw [hT9]; exact hP9, hD9⟩, hS.F hT9⟩) hS.2.2 d_Pl_isTaken_31
  exact lp_2 _ 0 0 _ _ _ (nI_0.symm) (Nat.zero_le _) (rfl) (Nat.lt_succ_self _) (hP.sub [0, 1, 2] rfl) (hD.sub [0, 1, 2] (by decide) rfl) hS (lv_sub hl [1, 2, 3, 0] rfl)
end
section
abbrev rm_Pl_addVertex : Room := { frames := 1, cells := 0, slots := 0, locals := 23 }
abbrev q_Pl_addVertex (D : va_G) (cI cL : ClassId) (A : Nat → Prop) (p : Nat) (x : Int32) (y : Int32) (pX : Nat) (pY : Nat) (pF : Nat) (pC : Nat) (pA : Nat) (pB : Nat) (pR : Nat) (pK : Nat) (nv : Int32) (ns : Int32) (nw : Int32) (vx : Nat → Int32) (vy : Nat → Int32) : Array Value → State → Outcome → State → Prop := va_Qi (S := Int32 × (Nat → Int32) × (Nat → Int32)) (fun (r : Int32) => fun (u : Int32 × (Nat → Int32) × (Nat → Int32)) => match u with | (nv2, vx2, vy2) => r = (if sw_avb nv vx vy x y = true then nv else -1) ∧ nv2 = (if sw_avb nv vx vy x y = true then nv + 1 else nv) ∧ vx2 = (if sw_avb nv vx vy x y = true then upd vx nv.toNatClampNeg x else vx) ∧ vy2 = (if sw_avb nv vx vy x y = true then upd vy nv.toNatClampNeg y else vy)) (sw_R D A (fun (u : Int32 × (Nat → Int32) × (Nat → Int32)) => match u with | (nv2, vx2, vy2) => [(p, .inr (1, [.ref pX, .ref pY, .ref pF, .ref pC, .ref pA, .ref pB, .ref pR, .ref pK, .int nv2, .int ns, .int nw])), (pX, .inl (cI, 64, .inl vx2)), (pY, .inl (cI, 64, .inl vy2))])) A
set_option maxHeartbeats 4000000 in
set_option maxRecDepth 100000 in
theorem c_Pl_addVertex (l : Launch) (D : va_G) (cI cL : ClassId) (tq sz : Nat) (p : Nat) (x : Int32) (y : Int32) (pX : Nat) (pY : Nat) (pF : Nat) (pC : Nat) (pA : Nat) (pB : Nat) (pR : Nat) (pK : Nat) (nv : Int32) (ns : Int32) (nw : Int32) (vx : Nat → Int32) (vy : Nat → Int32) (hn : sw_ok nv 64) : Met l y_Pl_addVertex w_Pl_addVertex rm_Pl_addVertex (va_Pc [.ref p, .int x, .int y] (sw_B D cI cL tq sz [(p, .inr (1, [.ref pX, .ref pY, .ref pF, .ref pC, .ref pA, .ref pB, .ref pR, .ref pK, .int nv, .int ns, .int nw])), (pX, .inl (cI, 64, .inl vx)), (pY, .inl (cI, 64, .inl vy))])) (q_Pl_addVertex D cI cL (va_A [(p, .inr (1, [.ref pX, .ref pY, .ref pF, .ref pC, .ref pA, .ref pB, .ref pR, .ref pK, .int nv, .int ns, .int nw])), (pX, .inl (cI, 64, .inl vx)), (pY, .inl (cI, 64, .inl vy))] sz) p x y pX pY pF pC pA pB pR pK nv ns nw vx vy) 0 0 (va_A [(p, .inr (1, [.ref pX, .ref pY, .ref pF, .ref pC, .ref pA, .ref pB, .ref pR, .ref pK, .int nv, .int ns, .int nw])), (pX, .inl (cI, 64, .inl vx)), (pY, .inl (cI, 64, .inl vy))] sz) := by
  refine Met.ofW (cc := b_Pl_addVertex) (maxL := 3) (ret := (some .int)) (by decide) rfl ?_
  intro mp me s mm args below meth mk s₁ B hml hv
  obtain ⟨rfl, hsz, hP, hK, hD0, hG⟩ := hv
  have hx := B.exec
  have hb := B.bytes
  have hr := B.returns
  have hts := atoms_spec (ws := w_Pl_addVertex) B.pre
  have hw : ∀ w ∈ sw_words, w.before _ s = true := fun w h => hts w (List.mem_cons_of_mem _ h)
  have hown : s.vm.findClass R_Pl = some mm.cls := findClass_of_methodNamed B.named
  have hlocks := B.notSynchronized
  subst hsz
  have hD := hD0.self (sz := s.heap.size)
  generalize hAe : va_A [(p, .inr (1, [.ref pX, .ref pY, .ref pF, .ref pC, .ref pA, .ref pB, .ref pR, .ref pK, .int nv, .int ns, .int nw])), (pX, .inl (cI, 64, .inl vx)), (pY, .inl (cI, 64, .inl vy))] s.heap.size = A at hD hG ⊢
  have hA : ∀ q : Nat, s.heap.size ≤ q → A q := fun q h => by rw [← hAe]; exact Or.inr h
  have hS : va_S A s.heap s.heap [] := va_S.rf
  have hl := lv_entry ([.ref p, .int x, .int y]) (n := 3) (Nat.le_of_ble_eq_true rfl)
  rw [lg_entry_eq]
  generalize (lg_sl ([.ref p, .int x, .int y]) ++ List.replicate (3 - (lg_sl ([.ref p, .int x, .int y])).length) Slot.unset).toArray = ls at hl ⊢
  have hl : lv_has ls 3 [(0, .ref p), (1, .int x), (2, .int y)] := hl
  refine lv_aload_n hx hb d_Pl_addVertex_0 rfl (lv_at hl 0 rfl) ?_
  refine va_get (D := D) (ci := 1) (v := .int nv) (C := R_Pl) (T := F_Pl) (N := 11) hx hb hw ku_Pl hown hK hP 0 rfl rfl 8 (by decide) (hw _ kw_ae77367f) (fun _ h9 => h9) rfl d_Pl_addVertex_1 ?_
  refine lv_bipush (v := 64) hx hb d_Pl_addVertex_4 (by decide) ?_
  refine lv_icmp_ge (tgt := 18) hx hb d_Pl_addVertex_6 (by decide) (fun c_6 => ?_) (fun c_6 => ?_)
  · skip
    refine lv_iconst (v := (-1)) hx hb d_Pl_addVertex_18 (by decide) ?_
    have hP9 := hP.sub (ws' := [(p, .inr (1, [.ref pX, .ref pY, .ref pF, .ref pC, .ref pA, .ref pB, .ref pR, .ref pK, .int nv, .int ns, .int nw])), (pX, .inl (cI, 64, .inl vx)), (pY, .inl (cI, 64, .inl vy))]) [0, 1, 2] rfl
    have hD9 := hD.sub (ws' := [(p, .inr (1, [.ref pX, .ref pY, .ref pF, .ref pC, .ref pA, .ref pB, .ref pR, .ref pK, .int nv, .int ns, .int nw])), (pX, .inl (cI, 64, .inl vx)), (pY, .inl (cI, 64, .inl vy))]) [0, 1, 2] (by decide) rfl
    exact W.iret (v := (-1)) hx hb hr (fun T9 hT9 hW9 => ⟨⟨(-1), (nv, vx, vy), rfl, by simp [sw_avb, c_6], by rw [hT9]; exact hP9, hD9⟩, hS.F hT9⟩) hS.2.2 d_Pl_addVertex_19
  · skip
    refine lv_aload_n hx hb d_Pl_addVertex_9 rfl (lv_at hl 0 rfl) ?_
    refine lv_iload_n hx hb d_Pl_addVertex_10 rfl (lv_at hl 1 rfl) ?_
    refine lv_iload_n hx hb d_Pl_addVertex_11 rfl (lv_at hl 2 rfl) ?_
    refine sw_ki0 (wr := []) (va_runV (As := [.int x, .int y]) (rest := []) ⟨hx, hb, hml, hown, hw⟩ (c_Pl_isTaken l D cI cL tq _ p x y pX pY pF pC pA pB pR pK nv ns nw vx vy (by assumption)) (cwV 2 hw (sw_gV kw_54bbef87 kw_6e4e60b1 kw_7eb65973 kw_e4821dd4 kc_Pl_isTaken) rfl rfl rfl ⟨rfl, yd_Pl_isTaken⟩ ⟨Nat.le_of_ble_eq_true rfl, Nat.le_of_ble_eq_true rfl⟩) (sw_preV hK hP hD hS hA hG [0, 1, 2] rfl (by decide) 1 0 rfl rfl) rfl rfl hl.1 rfl (lv_room (Nat.le_of_ble_eq_true rfl)) d_Pl_addVertex_12 ⟨Nat.le_of_ble_eq_true rfl, Nat.le_of_ble_eq_true rfl⟩) hP hD hS hA [0, 1, 2] [] rfl rfl (by decide) (by decide) (fun r_12 _ H locs hp_12 hP hD hS => ?_)
    replace hP : va_P D sw_cl [(p, .inr (1, [.ref pX, .ref pY, .ref pF, .ref pC, .ref pA, .ref pB, .ref pR, .ref pK, .int nv, .int ns, .int nw])), (pX, .inl (cI, 64, .inl vx)), (pY, .inl (cI, 64, .inl vy))] H := hP
    replace hD : va_D A [(p, .inr (1, [.ref pX, .ref pY, .ref pF, .ref pC, .ref pA, .ref pB, .ref pR, .ref pK, .int nv, .int ns, .int nw])), (pX, .inl (cI, 64, .inl vx)), (pY, .inl (cI, 64, .inl vy))] := hD
    try dsimp only at hp_12
    subst hp_12
    refine lv_if_eq (tgt := 20) hx hb d_Pl_addVertex_15 (by decide) (fun c_15 => ?_) (fun c_15 => ?_)
    · skip
      replace c_15 := sw_b0.mp c_15
      have hin1 : vp_in nv 64 := sw_okin hn c_6
      refine lv_aload_n hx hb d_Pl_addVertex_20 rfl (lv_at hl 0 rfl) ?_
      refine va_get (D := D) (ci := 1) (v := .ref pX) (C := R_Pl) (T := F_Pl) (N := 11) hx hb hw ku_Pl hown hK hP 0 rfl rfl 0 (by decide) (hw _ kw_8234c2ed) (fun _ h9 => h9) rfl d_Pl_addVertex_21 ?_
      refine lv_aload_n hx hb d_Pl_addVertex_24 rfl (lv_at hl 0 rfl) ?_
      refine va_get (D := D) (ci := 1) (v := .int nv) (C := R_Pl) (T := F_Pl) (N := 11) hx hb hw ku_Pl hown hK hP 0 rfl rfl 8 (by decide) (hw _ kw_ae77367f) (fun _ h9 => h9) rfl d_Pl_addVertex_25 ?_
      refine lv_iload_n hx hb d_Pl_addVertex_28 rfl (lv_at hl 1 rfl) ?_
      refine va_iast hx hb hK hP hD hS 1 0 rfl rfl (by assumption) d_Pl_addVertex_29 (fun H locs hP hD hS => ?_)
      replace hP : va_P D sw_cl [(p, .inr (1, [.ref pX, .ref pY, .ref pF, .ref pC, .ref pA, .ref pB, .ref pR, .ref pK, .int nv, .int ns, .int nw])), (pX, .inl (cI, 64, .inl (upd vx nv.toNatClampNeg x))), (pY, .inl (cI, 64, .inl vy))] H := hP
      replace hD : va_D A [(p, .inr (1, [.ref pX, .ref pY, .ref pF, .ref pC, .ref pA, .ref pB, .ref pR, .ref pK, .int nv, .int ns, .int nw])), (pX, .inl (cI, 64, .inl (upd vx nv.toNatClampNeg x))), (pY, .inl (cI, 64, .inl vy))] := hD
      refine lv_aload_n hx hb d_Pl_addVertex_30 rfl (lv_at hl 0 rfl) ?_
      refine va_get (D := D) (ci := 1) (v := .ref pY) (C := R_Pl) (T := F_Pl) (N := 11) hx hb hw ku_Pl hown hK hP 0 rfl rfl 1 (by decide) (hw _ kw_c8115e4c) (fun _ h9 => h9) rfl d_Pl_addVertex_31 ?_
      refine lv_aload_n hx hb d_Pl_addVertex_34 rfl (lv_at hl 0 rfl) ?_
      refine va_get (D := D) (ci := 1) (v := .int nv) (C := R_Pl) (T := F_Pl) (N := 11) hx hb hw ku_Pl hown hK hP 0 rfl rfl 8 (by decide) (hw _ kw_ae77367f) (fun _ h9 => h9) rfl d_Pl_addVertex_35 ?_
      refine lv_iload_n hx hb d_Pl_addVertex_38 rfl (lv_at hl 2 rfl) ?_
      refine va_iast hx hb hK hP hD hS 2 0 rfl rfl (by assumption) d_Pl_addVertex_39 (fun H locs hP hD hS => ?_)
      replace hP : va_P D sw_cl [(p, .inr (1, [.ref pX, .ref pY, .ref pF, .ref pC, .ref pA, .ref pB, .ref pR, .ref pK, .int nv, .int ns, .int nw])), (pX, .inl (cI, 64, .inl (upd vx nv.toNatClampNeg x))), (pY, .inl (cI, 64, .inl (upd vy nv.toNatClampNeg y)))] H := hP
      replace hD : va_D A [(p, .inr (1, [.ref pX, .ref pY, .ref pF, .ref pC, .ref pA, .ref pB, .ref pR, .ref pK, .int nv, .int ns, .int nw])), (pX, .inl (cI, 64, .inl (upd vx nv.toNatClampNeg x))), (pY, .inl (cI, 64, .inl (upd vy nv.toNatClampNeg y)))] := hD
      refine lv_aload_n hx hb d_Pl_addVertex_40 rfl (lv_at hl 0 rfl) ?_
      refine lv_dup hx hb d_Pl_addVertex_41 rfl ?_
      refine va_get (D := D) (ci := 1) (v := .int nv) (C := R_Pl) (T := F_Pl) (N := 11) hx hb hw ku_Pl hown hK hP 0 rfl rfl 8 (by decide) (hw _ kw_ae77367f) (fun _ h9 => h9) rfl d_Pl_addVertex_42 ?_
      refine lv_dup_x1 hx hb d_Pl_addVertex_45 rfl rfl ?_
      refine lv_iconst (v := 1) hx hb d_Pl_addVertex_46 (by decide) ?_
      refine lv_iadd hx hb d_Pl_addVertex_47 ?_
      refine va_put (D := D) (ci := 1) (v := .int (nv + 1)) (ty := t_Pl 8) (C := R_Pl) (T := F_Pl) (N := 11) hx hb hw ku_Pl t_Pl t_Pl_ok n_Pl hown hK hP hD hS 0 rfl rfl 8 (by decide) (hw _ kw_ae77367f) (fun _ h9 => h9) rfl (t_Pl_ok 8 (by decide)) rfl rfl (Nat.le_of_ble_eq_true rfl) d_Pl_addVertex_48 (fun H locs hP hD hS => ?_)
      replace hP : va_P D sw_cl [(p, .inr (1, [.ref pX, .ref pY, .ref pF, .ref pC, .ref pA, .ref pB, .ref pR, .ref pK, .int (nv + 1), .int ns, .int nw])), (pX, .inl (cI, 64, .inl (upd vx nv.toNatClampNeg x))), (pY, .inl (cI, 64, .inl (upd vy nv.toNatClampNeg y)))] H := hP
      replace hD : va_D A [(p, .inr (1, [.ref pX, .ref pY, .ref pF, .ref pC, .ref pA, .ref pB, .ref pR, .ref pK, .int (nv + 1), .int ns, .int nw])), (pX, .inl (cI, 64, .inl (upd vx nv.toNatClampNeg x))), (pY, .inl (cI, 64, .inl (upd vy nv.toNatClampNeg y)))] := hD
      have hP9 := hP.sub (ws' := [(p, .inr (1, [.ref pX, .ref pY, .ref pF, .ref pC, .ref pA, .ref pB, .ref pR, .ref pK, .int (nv + 1), .int ns, .int nw])), (pX, .inl (cI, 64, .inl (upd vx nv.toNatClampNeg x))), (pY, .inl (cI, 64, .inl (upd vy nv.toNatClampNeg y)))]) [0, 1, 2] rfl
      have hD9 := hD.sub (ws' := [(p, .inr (1, [.ref pX, .ref pY, .ref pF, .ref pC, .ref pA, .ref pB, .ref pR, .ref pK, .int (nv + 1), .int ns, .int nw])), (pX, .inl (cI, 64, .inl (upd vx nv.toNatClampNeg x))), (pY, .inl (cI, 64, .inl (upd vy nv.toNatClampNeg y)))]) [0, 1, 2] (by decide) rfl
      exact W.iret (v := nv) hx hb hr (fun T9 hT9 hW9 => ⟨⟨nv, (nv + 1, upd vx nv.toNatClampNeg x, upd vy nv.toNatClampNeg y), rfl, by simp [sw_avb, c_6, c_15], by rw [hT9]; exact hP9, hD9⟩, hS.F hT9⟩) hS.2.2 d_Pl_addVertex_51
    · skip
      replace c_15 := sw_bn.mp c_15
      refine lv_iconst (v := (-1)) hx hb d_Pl_addVertex_18 (by decide) ?_
      have hP9 := hP.sub (ws' := [(p, .inr (1, [.ref pX, .ref pY, .ref pF, .ref pC, .ref pA, .ref pB, .ref pR, .ref pK, .int nv, .int ns, .int nw])), (pX, .inl (cI, 64, .inl vx)), (pY, .inl (cI, 64, .inl vy))]) [0, 1, 2] rfl
      have hD9 := hD.sub (ws' := [(p, .inr (1, [.ref pX, .ref pY, .ref pF, .ref pC, .ref pA, .ref pB, .ref pR, .ref pK, .int nv, .int ns, .int nw])), (pX, .inl (cI, 64, .inl vx)), (pY, .inl (cI, 64, .inl vy))]) [0, 1, 2] (by decide) rfl
      exact W.iret (v := (-1)) hx hb hr (fun T9 hT9 hW9 => ⟨⟨(-1), (nv, vx, vy), rfl, by simp [sw_avb, c_6, c_15], by rw [hT9]; exact hP9, hD9⟩, hS.F hT9⟩) hS.2.2 d_Pl_addVertex_19

abbrev rm_Pl_addSector : Room := { frames := 0, cells := 0, slots := 0, locals := 0 }
abbrev q_Pl_addSector (D : va_G) (cI cL : ClassId) (A : Nat → Prop) (p : Nat) (x : Int32) (y : Int32) (pX : Nat) (pY : Nat) (pF : Nat) (pC : Nat) (pA : Nat) (pB : Nat) (pR : Nat) (pK : Nat) (nv : Int32) (ns : Int32) (nw : Int32) (fl : Nat → Int32) (ce : Nat → Int32) : Array Value → State → Outcome → State → Prop := va_Qi (S := Int32 × (Nat → Int32) × (Nat → Int32)) (fun (r : Int32) => fun (u : Int32 × (Nat → Int32) × (Nat → Int32)) => match u with | (ns2, fl2, ce2) => r = (if decide (ns < 16) = true then ns else -1) ∧ ns2 = (if decide (ns < 16) = true then ns + 1 else ns) ∧ fl2 = (if decide (ns < 16) = true then upd fl ns.toNatClampNeg x else fl) ∧ ce2 = (if decide (ns < 16) = true then upd ce ns.toNatClampNeg y else ce)) (sw_R D A (fun (u : Int32 × (Nat → Int32) × (Nat → Int32)) => match u with | (ns2, fl2, ce2) => [(p, .inr (1, [.ref pX, .ref pY, .ref pF, .ref pC, .ref pA, .ref pB, .ref pR, .ref pK, .int nv, .int ns2, .int nw])), (pF, .inl (cI, 16, .inl fl2)), (pC, .inl (cI, 16, .inl ce2))])) A
set_option maxHeartbeats 4000000 in
set_option maxRecDepth 100000 in
theorem c_Pl_addSector (l : Launch) (D : va_G) (cI cL : ClassId) (tq sz : Nat) (p : Nat) (x : Int32) (y : Int32) (pX : Nat) (pY : Nat) (pF : Nat) (pC : Nat) (pA : Nat) (pB : Nat) (pR : Nat) (pK : Nat) (nv : Int32) (ns : Int32) (nw : Int32) (fl : Nat → Int32) (ce : Nat → Int32) (hn : sw_ok ns 16) : Met l y_Pl_addSector w_Pl_addSector rm_Pl_addSector (va_Pc [.ref p, .int x, .int y] (sw_B D cI cL tq sz [(p, .inr (1, [.ref pX, .ref pY, .ref pF, .ref pC, .ref pA, .ref pB, .ref pR, .ref pK, .int nv, .int ns, .int nw])), (pF, .inl (cI, 16, .inl fl)), (pC, .inl (cI, 16, .inl ce))])) (q_Pl_addSector D cI cL (va_A [(p, .inr (1, [.ref pX, .ref pY, .ref pF, .ref pC, .ref pA, .ref pB, .ref pR, .ref pK, .int nv, .int ns, .int nw])), (pF, .inl (cI, 16, .inl fl)), (pC, .inl (cI, 16, .inl ce))] sz) p x y pX pY pF pC pA pB pR pK nv ns nw fl ce) 0 0 (va_A [(p, .inr (1, [.ref pX, .ref pY, .ref pF, .ref pC, .ref pA, .ref pB, .ref pR, .ref pK, .int nv, .int ns, .int nw])), (pF, .inl (cI, 16, .inl fl)), (pC, .inl (cI, 16, .inl ce))] sz) := by
  refine Met.ofW (cc := b_Pl_addSector) (maxL := 3) (ret := (some .int)) (by decide) rfl ?_
  intro mp me s mm args below meth mk s₁ B hml hv
  obtain ⟨rfl, hsz, hP, hK, hD0, hG⟩ := hv
  have hx := B.exec
  have hb := B.bytes
  have hr := B.returns
  have hts := atoms_spec (ws := w_Pl_addSector) B.pre
  have hw : ∀ w ∈ sw_words, w.before _ s = true := fun w h => hts w (List.mem_cons_of_mem _ h)
  have hown : s.vm.findClass R_Pl = some mm.cls := findClass_of_methodNamed B.named
  have hlocks := B.notSynchronized
  subst hsz
  have hD := hD0.self (sz := s.heap.size)
  generalize hAe : va_A [(p, .inr (1, [.ref pX, .ref pY, .ref pF, .ref pC, .ref pA, .ref pB, .ref pR, .ref pK, .int nv, .int ns, .int nw])), (pF, .inl (cI, 16, .inl fl)), (pC, .inl (cI, 16, .inl ce))] s.heap.size = A at hD hG ⊢
  have hA : ∀ q : Nat, s.heap.size ≤ q → A q := fun q h => by rw [← hAe]; exact Or.inr h
  have hS : va_S A s.heap s.heap [] := va_S.rf
  have hl := lv_entry ([.ref p, .int x, .int y]) (n := 3) (Nat.le_of_ble_eq_true rfl)
  rw [lg_entry_eq]
  generalize (lg_sl ([.ref p, .int x, .int y]) ++ List.replicate (3 - (lg_sl ([.ref p, .int x, .int y])).length) Slot.unset).toArray = ls at hl ⊢
  have hl : lv_has ls 3 [(0, .ref p), (1, .int x), (2, .int y)] := hl
  refine lv_aload_n hx hb d_Pl_addSector_0 rfl (lv_at hl 0 rfl) ?_
  refine va_get (D := D) (ci := 1) (v := .int ns) (C := R_Pl) (T := F_Pl) (N := 11) hx hb hw ku_Pl hown hK hP 0 rfl rfl 9 (by decide) (hw _ kw_8591057a) (fun _ h9 => h9) rfl d_Pl_addSector_1 ?_
  refine lv_bipush (v := 16) hx hb d_Pl_addSector_4 (by decide) ?_
  refine lv_icmp_lt (tgt := 11) hx hb d_Pl_addSector_6 (by decide) (fun c_6 => ?_) (fun c_6 => ?_)
  · skip
    have hin1 : vp_in ns 16 := sw_okin2 hn c_6
    refine lv_aload_n hx hb d_Pl_addSector_11 rfl (lv_at hl 0 rfl) ?_
    refine va_get (D := D) (ci := 1) (v := .ref pF) (C := R_Pl) (T := F_Pl) (N := 11) hx hb hw ku_Pl hown hK hP 0 rfl rfl 2 (by decide) (hw _ kw_27d57bb8) (fun _ h9 => h9) rfl d_Pl_addSector_12 ?_
    refine lv_aload_n hx hb d_Pl_addSector_15 rfl (lv_at hl 0 rfl) ?_
    refine va_get (D := D) (ci := 1) (v := .int ns) (C := R_Pl) (T := F_Pl) (N := 11) hx hb hw ku_Pl hown hK hP 0 rfl rfl 9 (by decide) (hw _ kw_8591057a) (fun _ h9 => h9) rfl d_Pl_addSector_16 ?_
    refine lv_iload_n hx hb d_Pl_addSector_19 rfl (lv_at hl 1 rfl) ?_
    refine va_iast hx hb hK hP hD hS 1 0 rfl rfl (by assumption) d_Pl_addSector_20 (fun H locs hP hD hS => ?_)
    replace hP : va_P D sw_cl [(p, .inr (1, [.ref pX, .ref pY, .ref pF, .ref pC, .ref pA, .ref pB, .ref pR, .ref pK, .int nv, .int ns, .int nw])), (pF, .inl (cI, 16, .inl (upd fl ns.toNatClampNeg x))), (pC, .inl (cI, 16, .inl ce))] H := hP
    replace hD : va_D A [(p, .inr (1, [.ref pX, .ref pY, .ref pF, .ref pC, .ref pA, .ref pB, .ref pR, .ref pK, .int nv, .int ns, .int nw])), (pF, .inl (cI, 16, .inl (upd fl ns.toNatClampNeg x))), (pC, .inl (cI, 16, .inl ce))] := hD
    refine lv_aload_n hx hb d_Pl_addSector_21 rfl (lv_at hl 0 rfl) ?_
    refine va_get (D := D) (ci := 1) (v := .ref pC) (C := R_Pl) (T := F_Pl) (N := 11) hx hb hw ku_Pl hown hK hP 0 rfl rfl 3 (by decide) (hw _ kw_65f1a660) (fun _ h9 => h9) rfl d_Pl_addSector_22 ?_
    refine lv_aload_n hx hb d_Pl_addSector_25 rfl (lv_at hl 0 rfl) ?_
    refine va_get (D := D) (ci := 1) (v := .int ns) (C := R_Pl) (T := F_Pl) (N := 11) hx hb hw ku_Pl hown hK hP 0 rfl rfl 9 (by decide) (hw _ kw_8591057a) (fun _ h9 => h9) rfl d_Pl_addSector_26 ?_
    refine lv_iload_n hx hb d_Pl_addSector_29 rfl (lv_at hl 2 rfl) ?_
    refine va_iast hx hb hK hP hD hS 2 0 rfl rfl (by assumption) d_Pl_addSector_30 (fun H locs hP hD hS => ?_)
    replace hP : va_P D sw_cl [(p, .inr (1, [.ref pX, .ref pY, .ref pF, .ref pC, .ref pA, .ref pB, .ref pR, .ref pK, .int nv, .int ns, .int nw])), (pF, .inl (cI, 16, .inl (upd fl ns.toNatClampNeg x))), (pC, .inl (cI, 16, .inl (upd ce ns.toNatClampNeg y)))] H := hP
    replace hD : va_D A [(p, .inr (1, [.ref pX, .ref pY, .ref pF, .ref pC, .ref pA, .ref pB, .ref pR, .ref pK, .int nv, .int ns, .int nw])), (pF, .inl (cI, 16, .inl (upd fl ns.toNatClampNeg x))), (pC, .inl (cI, 16, .inl (upd ce ns.toNatClampNeg y)))] := hD
    refine lv_aload_n hx hb d_Pl_addSector_31 rfl (lv_at hl 0 rfl) ?_
    refine lv_dup hx hb d_Pl_addSector_32 rfl ?_
    refine va_get (D := D) (ci := 1) (v := .int ns) (C := R_Pl) (T := F_Pl) (N := 11) hx hb hw ku_Pl hown hK hP 0 rfl rfl 9 (by decide) (hw _ kw_8591057a) (fun _ h9 => h9) rfl d_Pl_addSector_33 ?_
    refine lv_dup_x1 hx hb d_Pl_addSector_36 rfl rfl ?_
    refine lv_iconst (v := 1) hx hb d_Pl_addSector_37 (by decide) ?_
    refine lv_iadd hx hb d_Pl_addSector_38 ?_
    refine va_put (D := D) (ci := 1) (v := .int (ns + 1)) (ty := t_Pl 9) (C := R_Pl) (T := F_Pl) (N := 11) hx hb hw ku_Pl t_Pl t_Pl_ok n_Pl hown hK hP hD hS 0 rfl rfl 9 (by decide) (hw _ kw_8591057a) (fun _ h9 => h9) rfl (t_Pl_ok 9 (by decide)) rfl rfl (Nat.le_of_ble_eq_true rfl) d_Pl_addSector_39 (fun H locs hP hD hS => ?_)
    replace hP : va_P D sw_cl [(p, .inr (1, [.ref pX, .ref pY, .ref pF, .ref pC, .ref pA, .ref pB, .ref pR, .ref pK, .int nv, .int (ns + 1), .int nw])), (pF, .inl (cI, 16, .inl (upd fl ns.toNatClampNeg x))), (pC, .inl (cI, 16, .inl (upd ce ns.toNatClampNeg y)))] H := hP
    replace hD : va_D A [(p, .inr (1, [.ref pX, .ref pY, .ref pF, .ref pC, .ref pA, .ref pB, .ref pR, .ref pK, .int nv, .int (ns + 1), .int nw])), (pF, .inl (cI, 16, .inl (upd fl ns.toNatClampNeg x))), (pC, .inl (cI, 16, .inl (upd ce ns.toNatClampNeg y)))] := hD
    have hP9 := hP.sub (ws' := [(p, .inr (1, [.ref pX, .ref pY, .ref pF, .ref pC, .ref pA, .ref pB, .ref pR, .ref pK, .int nv, .int (ns + 1), .int nw])), (pF, .inl (cI, 16, .inl (upd fl ns.toNatClampNeg x))), (pC, .inl (cI, 16, .inl (upd ce ns.toNatClampNeg y)))]) [0, 1, 2] rfl
    have hD9 := hD.sub (ws' := [(p, .inr (1, [.ref pX, .ref pY, .ref pF, .ref pC, .ref pA, .ref pB, .ref pR, .ref pK, .int nv, .int (ns + 1), .int nw])), (pF, .inl (cI, 16, .inl (upd fl ns.toNatClampNeg x))), (pC, .inl (cI, 16, .inl (upd ce ns.toNatClampNeg y)))]) [0, 1, 2] (by decide) rfl
    exact W.iret (v := ns) hx hb hr (fun T9 hT9 hW9 => ⟨⟨ns, (ns + 1, upd fl ns.toNatClampNeg x, upd ce ns.toNatClampNeg y), rfl, by simp [c_6], by rw [hT9]; exact hP9, hD9⟩, hS.F hT9⟩) hS.2.2 d_Pl_addSector_42
  · skip
    refine lv_iconst (v := (-1)) hx hb d_Pl_addSector_9 (by decide) ?_
    have hP9 := hP.sub (ws' := [(p, .inr (1, [.ref pX, .ref pY, .ref pF, .ref pC, .ref pA, .ref pB, .ref pR, .ref pK, .int nv, .int ns, .int nw])), (pF, .inl (cI, 16, .inl fl)), (pC, .inl (cI, 16, .inl ce))]) [0, 1, 2] rfl
    have hD9 := hD.sub (ws' := [(p, .inr (1, [.ref pX, .ref pY, .ref pF, .ref pC, .ref pA, .ref pB, .ref pR, .ref pK, .int nv, .int ns, .int nw])), (pF, .inl (cI, 16, .inl fl)), (pC, .inl (cI, 16, .inl ce))]) [0, 1, 2] (by decide) rfl
    exact W.iret (v := (-1)) hx hb hr (fun T9 hT9 hW9 => ⟨⟨(-1), (ns, fl, ce), rfl, by simp [c_6], by rw [hT9]; exact hP9, hD9⟩, hS.F hT9⟩) hS.2.2 d_Pl_addSector_10

abbrev rm_Pl_addWall : Room := { frames := 0, cells := 0, slots := 0, locals := 0 }
abbrev q_Pl_addWall (D : va_G) (cI cL : ClassId) (A : Nat → Prop) (p : Nat) (x : Int32) (y : Int32) (z : Int32) (v : Int32) (pX : Nat) (pY : Nat) (pF : Nat) (pC : Nat) (pA : Nat) (pB : Nat) (pR : Nat) (pK : Nat) (nv : Int32) (ns : Int32) (nw : Int32) (fa : Nat → Int32) (tb : Nat → Int32) (fr : Nat → Int32) (bk : Nat → Int32) : Array Value → State → Outcome → State → Prop := va_Qi (S := Int32 × (Nat → Int32) × (Nat → Int32) × (Nat → Int32) × (Nat → Int32)) (fun (r : Int32) => fun (u : Int32 × (Nat → Int32) × (Nat → Int32) × (Nat → Int32) × (Nat → Int32)) => match u with | (nw2, fa2, tb2, fr2, bk2) => r = (if decide (nw < 64) = true then nw else -1) ∧ nw2 = (if decide (nw < 64) = true then nw + 1 else nw) ∧ fa2 = (if decide (nw < 64) = true then upd fa nw.toNatClampNeg x else fa) ∧ tb2 = (if decide (nw < 64) = true then upd tb nw.toNatClampNeg y else tb) ∧ fr2 = (if decide (nw < 64) = true then upd fr nw.toNatClampNeg z else fr) ∧ bk2 = (if decide (nw < 64) = true then upd bk nw.toNatClampNeg v else bk)) (sw_R D A (fun (u : Int32 × (Nat → Int32) × (Nat → Int32) × (Nat → Int32) × (Nat → Int32)) => match u with | (nw2, fa2, tb2, fr2, bk2) => [(p, .inr (1, [.ref pX, .ref pY, .ref pF, .ref pC, .ref pA, .ref pB, .ref pR, .ref pK, .int nv, .int ns, .int nw2])), (pA, .inl (cI, 64, .inl fa2)), (pB, .inl (cI, 64, .inl tb2)), (pR, .inl (cI, 64, .inl fr2)), (pK, .inl (cI, 64, .inl bk2))])) A
set_option maxHeartbeats 4000000 in
set_option maxRecDepth 100000 in
theorem c_Pl_addWall (l : Launch) (D : va_G) (cI cL : ClassId) (tq sz : Nat) (p : Nat) (x : Int32) (y : Int32) (z : Int32) (v : Int32) (pX : Nat) (pY : Nat) (pF : Nat) (pC : Nat) (pA : Nat) (pB : Nat) (pR : Nat) (pK : Nat) (nv : Int32) (ns : Int32) (nw : Int32) (fa : Nat → Int32) (tb : Nat → Int32) (fr : Nat → Int32) (bk : Nat → Int32) (hn : sw_ok nw 64) : Met l y_Pl_addWall w_Pl_addWall rm_Pl_addWall (va_Pc [.ref p, .int x, .int y, .int z, .int v] (sw_B D cI cL tq sz [(p, .inr (1, [.ref pX, .ref pY, .ref pF, .ref pC, .ref pA, .ref pB, .ref pR, .ref pK, .int nv, .int ns, .int nw])), (pA, .inl (cI, 64, .inl fa)), (pB, .inl (cI, 64, .inl tb)), (pR, .inl (cI, 64, .inl fr)), (pK, .inl (cI, 64, .inl bk))])) (q_Pl_addWall D cI cL (va_A [(p, .inr (1, [.ref pX, .ref pY, .ref pF, .ref pC, .ref pA, .ref pB, .ref pR, .ref pK, .int nv, .int ns, .int nw])), (pA, .inl (cI, 64, .inl fa)), (pB, .inl (cI, 64, .inl tb)), (pR, .inl (cI, 64, .inl fr)), (pK, .inl (cI, 64, .inl bk))] sz) p x y z v pX pY pF pC pA pB pR pK nv ns nw fa tb fr bk) 0 0 (va_A [(p, .inr (1, [.ref pX, .ref pY, .ref pF, .ref pC, .ref pA, .ref pB, .ref pR, .ref pK, .int nv, .int ns, .int nw])), (pA, .inl (cI, 64, .inl fa)), (pB, .inl (cI, 64, .inl tb)), (pR, .inl (cI, 64, .inl fr)), (pK, .inl (cI, 64, .inl bk))] sz) := by
  refine Met.ofW (cc := b_Pl_addWall) (maxL := 5) (ret := (some .int)) (by decide) rfl ?_
  intro mp me s mm args below meth mk s₁ B hml hv
  obtain ⟨rfl, hsz, hP, hK, hD0, hG⟩ := hv
  have hx := B.exec
  have hb := B.bytes
  have hr := B.returns
  have hts := atoms_spec (ws := w_Pl_addWall) B.pre
  have hw : ∀ w ∈ sw_words, w.before _ s = true := fun w h => hts w (List.mem_cons_of_mem _ h)
  have hown : s.vm.findClass R_Pl = some mm.cls := findClass_of_methodNamed B.named
  have hlocks := B.notSynchronized
  subst hsz
  have hD := hD0.self (sz := s.heap.size)
  generalize hAe : va_A [(p, .inr (1, [.ref pX, .ref pY, .ref pF, .ref pC, .ref pA, .ref pB, .ref pR, .ref pK, .int nv, .int ns, .int nw])), (pA, .inl (cI, 64, .inl fa)), (pB, .inl (cI, 64, .inl tb)), (pR, .inl (cI, 64, .inl fr)), (pK, .inl (cI, 64, .inl bk))] s.heap.size = A at hD hG ⊢
  have hA : ∀ q : Nat, s.heap.size ≤ q → A q := fun q h => by rw [← hAe]; exact Or.inr h
  have hS : va_S A s.heap s.heap [] := va_S.rf
  have hl := lv_entry ([.ref p, .int x, .int y, .int z, .int v]) (n := 5) (Nat.le_of_ble_eq_true rfl)
  rw [lg_entry_eq]
  generalize (lg_sl ([.ref p, .int x, .int y, .int z, .int v]) ++ List.replicate (5 - (lg_sl ([.ref p, .int x, .int y, .int z, .int v])).length) Slot.unset).toArray = ls at hl ⊢
  have hl : lv_has ls 5 [(0, .ref p), (1, .int x), (2, .int y), (3, .int z), (4, .int v)] := hl
  refine lv_aload_n hx hb d_Pl_addWall_0 rfl (lv_at hl 0 rfl) ?_
  refine va_get (D := D) (ci := 1) (v := .int nw) (C := R_Pl) (T := F_Pl) (N := 11) hx hb hw ku_Pl hown hK hP 0 rfl rfl 10 (by decide) (hw _ kw_733d4839) (fun _ h9 => h9) rfl d_Pl_addWall_1 ?_
  refine lv_bipush (v := 64) hx hb d_Pl_addWall_4 (by decide) ?_
  refine lv_icmp_lt (tgt := 11) hx hb d_Pl_addWall_6 (by decide) (fun c_6 => ?_) (fun c_6 => ?_)
  · skip
    have hin1 : vp_in nw 64 := sw_okin2 hn c_6
    refine lv_aload_n hx hb d_Pl_addWall_11 rfl (lv_at hl 0 rfl) ?_
    refine va_get (D := D) (ci := 1) (v := .ref pA) (C := R_Pl) (T := F_Pl) (N := 11) hx hb hw ku_Pl hown hK hP 0 rfl rfl 4 (by decide) (hw _ kw_8b810f0c) (fun _ h9 => h9) rfl d_Pl_addWall_12 ?_
    refine lv_aload_n hx hb d_Pl_addWall_15 rfl (lv_at hl 0 rfl) ?_
    refine va_get (D := D) (ci := 1) (v := .int nw) (C := R_Pl) (T := F_Pl) (N := 11) hx hb hw ku_Pl hown hK hP 0 rfl rfl 10 (by decide) (hw _ kw_733d4839) (fun _ h9 => h9) rfl d_Pl_addWall_16 ?_
    refine lv_iload_n hx hb d_Pl_addWall_19 rfl (lv_at hl 1 rfl) ?_
    refine va_iast hx hb hK hP hD hS 1 0 rfl rfl (by assumption) d_Pl_addWall_20 (fun H locs hP hD hS => ?_)
    replace hP : va_P D sw_cl [(p, .inr (1, [.ref pX, .ref pY, .ref pF, .ref pC, .ref pA, .ref pB, .ref pR, .ref pK, .int nv, .int ns, .int nw])), (pA, .inl (cI, 64, .inl (upd fa nw.toNatClampNeg x))), (pB, .inl (cI, 64, .inl tb)), (pR, .inl (cI, 64, .inl fr)), (pK, .inl (cI, 64, .inl bk))] H := hP
    replace hD : va_D A [(p, .inr (1, [.ref pX, .ref pY, .ref pF, .ref pC, .ref pA, .ref pB, .ref pR, .ref pK, .int nv, .int ns, .int nw])), (pA, .inl (cI, 64, .inl (upd fa nw.toNatClampNeg x))), (pB, .inl (cI, 64, .inl tb)), (pR, .inl (cI, 64, .inl fr)), (pK, .inl (cI, 64, .inl bk))] := hD
    refine lv_aload_n hx hb d_Pl_addWall_21 rfl (lv_at hl 0 rfl) ?_
    refine va_get (D := D) (ci := 1) (v := .ref pB) (C := R_Pl) (T := F_Pl) (N := 11) hx hb hw ku_Pl hown hK hP 0 rfl rfl 5 (by decide) (hw _ kw_1e4d1ebb) (fun _ h9 => h9) rfl d_Pl_addWall_22 ?_
    refine lv_aload_n hx hb d_Pl_addWall_25 rfl (lv_at hl 0 rfl) ?_
    refine va_get (D := D) (ci := 1) (v := .int nw) (C := R_Pl) (T := F_Pl) (N := 11) hx hb hw ku_Pl hown hK hP 0 rfl rfl 10 (by decide) (hw _ kw_733d4839) (fun _ h9 => h9) rfl d_Pl_addWall_26 ?_
    refine lv_iload_n hx hb d_Pl_addWall_29 rfl (lv_at hl 2 rfl) ?_
    refine va_iast hx hb hK hP hD hS 2 0 rfl rfl (by assumption) d_Pl_addWall_30 (fun H locs hP hD hS => ?_)
    replace hP : va_P D sw_cl [(p, .inr (1, [.ref pX, .ref pY, .ref pF, .ref pC, .ref pA, .ref pB, .ref pR, .ref pK, .int nv, .int ns, .int nw])), (pA, .inl (cI, 64, .inl (upd fa nw.toNatClampNeg x))), (pB, .inl (cI, 64, .inl (upd tb nw.toNatClampNeg y))), (pR, .inl (cI, 64, .inl fr)), (pK, .inl (cI, 64, .inl bk))] H := hP
    replace hD : va_D A [(p, .inr (1, [.ref pX, .ref pY, .ref pF, .ref pC, .ref pA, .ref pB, .ref pR, .ref pK, .int nv, .int ns, .int nw])), (pA, .inl (cI, 64, .inl (upd fa nw.toNatClampNeg x))), (pB, .inl (cI, 64, .inl (upd tb nw.toNatClampNeg y))), (pR, .inl (cI, 64, .inl fr)), (pK, .inl (cI, 64, .inl bk))] := hD
    refine lv_aload_n hx hb d_Pl_addWall_31 rfl (lv_at hl 0 rfl) ?_
    refine va_get (D := D) (ci := 1) (v := .ref pR) (C := R_Pl) (T := F_Pl) (N := 11) hx hb hw ku_Pl hown hK hP 0 rfl rfl 6 (by decide) (hw _ kw_3f39eaf5) (fun _ h9 => h9) rfl d_Pl_addWall_32 ?_
    refine lv_aload_n hx hb d_Pl_addWall_35 rfl (lv_at hl 0 rfl) ?_
    refine va_get (D := D) (ci := 1) (v := .int nw) (C := R_Pl) (T := F_Pl) (N := 11) hx hb hw ku_Pl hown hK hP 0 rfl rfl 10 (by decide) (hw _ kw_733d4839) (fun _ h9 => h9) rfl d_Pl_addWall_36 ?_
    refine lv_iload_n hx hb d_Pl_addWall_39 rfl (lv_at hl 3 rfl) ?_
    refine va_iast hx hb hK hP hD hS 3 0 rfl rfl (by assumption) d_Pl_addWall_40 (fun H locs hP hD hS => ?_)
    replace hP : va_P D sw_cl [(p, .inr (1, [.ref pX, .ref pY, .ref pF, .ref pC, .ref pA, .ref pB, .ref pR, .ref pK, .int nv, .int ns, .int nw])), (pA, .inl (cI, 64, .inl (upd fa nw.toNatClampNeg x))), (pB, .inl (cI, 64, .inl (upd tb nw.toNatClampNeg y))), (pR, .inl (cI, 64, .inl (upd fr nw.toNatClampNeg z))), (pK, .inl (cI, 64, .inl bk))] H := hP
    replace hD : va_D A [(p, .inr (1, [.ref pX, .ref pY, .ref pF, .ref pC, .ref pA, .ref pB, .ref pR, .ref pK, .int nv, .int ns, .int nw])), (pA, .inl (cI, 64, .inl (upd fa nw.toNatClampNeg x))), (pB, .inl (cI, 64, .inl (upd tb nw.toNatClampNeg y))), (pR, .inl (cI, 64, .inl (upd fr nw.toNatClampNeg z))), (pK, .inl (cI, 64, .inl bk))] := hD
    refine lv_aload_n hx hb d_Pl_addWall_41 rfl (lv_at hl 0 rfl) ?_
    refine va_get (D := D) (ci := 1) (v := .ref pK) (C := R_Pl) (T := F_Pl) (N := 11) hx hb hw ku_Pl hown hK hP 0 rfl rfl 7 (by decide) (hw _ kw_fa356e2a) (fun _ h9 => h9) rfl d_Pl_addWall_42 ?_
    refine lv_aload_n hx hb d_Pl_addWall_45 rfl (lv_at hl 0 rfl) ?_
    refine va_get (D := D) (ci := 1) (v := .int nw) (C := R_Pl) (T := F_Pl) (N := 11) hx hb hw ku_Pl hown hK hP 0 rfl rfl 10 (by decide) (hw _ kw_733d4839) (fun _ h9 => h9) rfl d_Pl_addWall_46 ?_
    refine lv_iload hx hb d_Pl_addWall_49 (lv_at hl 4 rfl) ?_
    refine va_iast hx hb hK hP hD hS 4 0 rfl rfl (by assumption) d_Pl_addWall_51 (fun H locs hP hD hS => ?_)
    replace hP : va_P D sw_cl [(p, .inr (1, [.ref pX, .ref pY, .ref pF, .ref pC, .ref pA, .ref pB, .ref pR, .ref pK, .int nv, .int ns, .int nw])), (pA, .inl (cI, 64, .inl (upd fa nw.toNatClampNeg x))), (pB, .inl (cI, 64, .inl (upd tb nw.toNatClampNeg y))), (pR, .inl (cI, 64, .inl (upd fr nw.toNatClampNeg z))), (pK, .inl (cI, 64, .inl (upd bk nw.toNatClampNeg v)))] H := hP
    replace hD : va_D A [(p, .inr (1, [.ref pX, .ref pY, .ref pF, .ref pC, .ref pA, .ref pB, .ref pR, .ref pK, .int nv, .int ns, .int nw])), (pA, .inl (cI, 64, .inl (upd fa nw.toNatClampNeg x))), (pB, .inl (cI, 64, .inl (upd tb nw.toNatClampNeg y))), (pR, .inl (cI, 64, .inl (upd fr nw.toNatClampNeg z))), (pK, .inl (cI, 64, .inl (upd bk nw.toNatClampNeg v)))] := hD
    refine lv_aload_n hx hb d_Pl_addWall_52 rfl (lv_at hl 0 rfl) ?_
    refine lv_dup hx hb d_Pl_addWall_53 rfl ?_
    refine va_get (D := D) (ci := 1) (v := .int nw) (C := R_Pl) (T := F_Pl) (N := 11) hx hb hw ku_Pl hown hK hP 0 rfl rfl 10 (by decide) (hw _ kw_733d4839) (fun _ h9 => h9) rfl d_Pl_addWall_54 ?_
    refine lv_dup_x1 hx hb d_Pl_addWall_57 rfl rfl ?_
    refine lv_iconst (v := 1) hx hb d_Pl_addWall_58 (by decide) ?_
    refine lv_iadd hx hb d_Pl_addWall_59 ?_
    refine va_put (D := D) (ci := 1) (v := .int (nw + 1)) (ty := t_Pl 10) (C := R_Pl) (T := F_Pl) (N := 11) hx hb hw ku_Pl t_Pl t_Pl_ok n_Pl hown hK hP hD hS 0 rfl rfl 10 (by decide) (hw _ kw_733d4839) (fun _ h9 => h9) rfl (t_Pl_ok 10 (by decide)) rfl rfl (Nat.le_of_ble_eq_true rfl) d_Pl_addWall_60 (fun H locs hP hD hS => ?_)
    replace hP : va_P D sw_cl [(p, .inr (1, [.ref pX, .ref pY, .ref pF, .ref pC, .ref pA, .ref pB, .ref pR, .ref pK, .int nv, .int ns, .int (nw + 1)])), (pA, .inl (cI, 64, .inl (upd fa nw.toNatClampNeg x))), (pB, .inl (cI, 64, .inl (upd tb nw.toNatClampNeg y))), (pR, .inl (cI, 64, .inl (upd fr nw.toNatClampNeg z))), (pK, .inl (cI, 64, .inl (upd bk nw.toNatClampNeg v)))] H := hP
    replace hD : va_D A [(p, .inr (1, [.ref pX, .ref pY, .ref pF, .ref pC, .ref pA, .ref pB, .ref pR, .ref pK, .int nv, .int ns, .int (nw + 1)])), (pA, .inl (cI, 64, .inl (upd fa nw.toNatClampNeg x))), (pB, .inl (cI, 64, .inl (upd tb nw.toNatClampNeg y))), (pR, .inl (cI, 64, .inl (upd fr nw.toNatClampNeg z))), (pK, .inl (cI, 64, .inl (upd bk nw.toNatClampNeg v)))] := hD
    have hP9 := hP.sub (ws' := [(p, .inr (1, [.ref pX, .ref pY, .ref pF, .ref pC, .ref pA, .ref pB, .ref pR, .ref pK, .int nv, .int ns, .int (nw + 1)])), (pA, .inl (cI, 64, .inl (upd fa nw.toNatClampNeg x))), (pB, .inl (cI, 64, .inl (upd tb nw.toNatClampNeg y))), (pR, .inl (cI, 64, .inl (upd fr nw.toNatClampNeg z))), (pK, .inl (cI, 64, .inl (upd bk nw.toNatClampNeg v)))]) [0, 1, 2, 3, 4] rfl
    have hD9 := hD.sub (ws' := [(p, .inr (1, [.ref pX, .ref pY, .ref pF, .ref pC, .ref pA, .ref pB, .ref pR, .ref pK, .int nv, .int ns, .int (nw + 1)])), (pA, .inl (cI, 64, .inl (upd fa nw.toNatClampNeg x))), (pB, .inl (cI, 64, .inl (upd tb nw.toNatClampNeg y))), (pR, .inl (cI, 64, .inl (upd fr nw.toNatClampNeg z))), (pK, .inl (cI, 64, .inl (upd bk nw.toNatClampNeg v)))]) [0, 1, 2, 3, 4] (by decide) rfl
    exact W.iret (v := nw) hx hb hr (fun T9 hT9 hW9 => ⟨⟨nw, (nw + 1, upd fa nw.toNatClampNeg x, upd tb nw.toNatClampNeg y, upd fr nw.toNatClampNeg z, upd bk nw.toNatClampNeg v), rfl, by simp [c_6], by rw [hT9]; exact hP9, hD9⟩, hS.F hT9⟩) hS.2.2 d_Pl_addWall_63
  · skip
    refine lv_iconst (v := (-1)) hx hb d_Pl_addWall_9 (by decide) ?_
    have hP9 := hP.sub (ws' := [(p, .inr (1, [.ref pX, .ref pY, .ref pF, .ref pC, .ref pA, .ref pB, .ref pR, .ref pK, .int nv, .int ns, .int nw])), (pA, .inl (cI, 64, .inl fa)), (pB, .inl (cI, 64, .inl tb)), (pR, .inl (cI, 64, .inl fr)), (pK, .inl (cI, 64, .inl bk))]) [0, 1, 2, 3, 4] rfl
    have hD9 := hD.sub (ws' := [(p, .inr (1, [.ref pX, .ref pY, .ref pF, .ref pC, .ref pA, .ref pB, .ref pR, .ref pK, .int nv, .int ns, .int nw])), (pA, .inl (cI, 64, .inl fa)), (pB, .inl (cI, 64, .inl tb)), (pR, .inl (cI, 64, .inl fr)), (pK, .inl (cI, 64, .inl bk))]) [0, 1, 2, 3, 4] (by decide) rfl
    exact W.iret (v := (-1)) hx hb hr (fun T9 hT9 hW9 => ⟨⟨(-1), (nw, fa, tb, fr, bk), rfl, by simp [c_6], by rw [hT9]; exact hP9, hD9⟩, hS.F hT9⟩) hS.2.2 d_Pl_addWall_10

abbrev rm_Pl_removeLastWall : Room := { frames := 0, cells := 0, slots := 0, locals := 0 }
abbrev q_Pl_removeLastWall (D : va_G) (cI cL : ClassId) (A : Nat → Prop) (p : Nat) (pX : Nat) (pY : Nat) (pF : Nat) (pC : Nat) (pA : Nat) (pB : Nat) (pR : Nat) (pK : Nat) (nv : Int32) (ns : Int32) (nw : Int32) : Array Value → State → Outcome → State → Prop := va_Qi (S := Int32) (fun (r : Int32) => fun (nw2 : Int32) => r = (sw_b (!(decide (nw = 0)))) ∧ nw2 = (if nw = 0 then nw else nw - 1)) (sw_R D A (fun (nw2 : Int32) => [(p, .inr (1, [.ref pX, .ref pY, .ref pF, .ref pC, .ref pA, .ref pB, .ref pR, .ref pK, .int nv, .int ns, .int nw2]))])) A
set_option maxHeartbeats 4000000 in
set_option maxRecDepth 100000 in
theorem c_Pl_removeLastWall (l : Launch) (D : va_G) (cI cL : ClassId) (tq sz : Nat) (p : Nat) (pX : Nat) (pY : Nat) (pF : Nat) (pC : Nat) (pA : Nat) (pB : Nat) (pR : Nat) (pK : Nat) (nv : Int32) (ns : Int32) (nw : Int32) : Met l y_Pl_removeLastWall w_Pl_removeLastWall rm_Pl_removeLastWall (va_Pc [.ref p] (sw_B D cI cL tq sz [(p, .inr (1, [.ref pX, .ref pY, .ref pF, .ref pC, .ref pA, .ref pB, .ref pR, .ref pK, .int nv, .int ns, .int nw]))])) (q_Pl_removeLastWall D cI cL (va_A [(p, .inr (1, [.ref pX, .ref pY, .ref pF, .ref pC, .ref pA, .ref pB, .ref pR, .ref pK, .int nv, .int ns, .int nw]))] sz) p pX pY pF pC pA pB pR pK nv ns nw) 0 0 (va_A [(p, .inr (1, [.ref pX, .ref pY, .ref pF, .ref pC, .ref pA, .ref pB, .ref pR, .ref pK, .int nv, .int ns, .int nw]))] sz) := by
  refine Met.ofW (cc := b_Pl_removeLastWall) (maxL := 1) (ret := (some .boolean)) (by decide) rfl ?_
  intro mp me s mm args below meth mk s₁ B hml hv
  obtain ⟨rfl, hsz, hP, hK, hD0, hG⟩ := hv
  have hx := B.exec
  have hb := B.bytes
  have hr := B.returns
  have hts := atoms_spec (ws := w_Pl_removeLastWall) B.pre
  have hw : ∀ w ∈ sw_words, w.before _ s = true := fun w h => hts w (List.mem_cons_of_mem _ h)
  have hown : s.vm.findClass R_Pl = some mm.cls := findClass_of_methodNamed B.named
  have hlocks := B.notSynchronized
  subst hsz
  have hD := hD0.self (sz := s.heap.size)
  generalize hAe : va_A [(p, .inr (1, [.ref pX, .ref pY, .ref pF, .ref pC, .ref pA, .ref pB, .ref pR, .ref pK, .int nv, .int ns, .int nw]))] s.heap.size = A at hD hG ⊢
  have hA : ∀ q : Nat, s.heap.size ≤ q → A q := fun q h => by rw [← hAe]; exact Or.inr h
  have hS : va_S A s.heap s.heap [] := va_S.rf
  have hl := lv_entry ([.ref p]) (n := 1) (Nat.le_of_ble_eq_true rfl)
  rw [lg_entry_eq]
  generalize (lg_sl ([.ref p]) ++ List.replicate (1 - (lg_sl ([.ref p])).length) Slot.unset).toArray = ls at hl ⊢
  have hl : lv_has ls 1 [(0, .ref p)] := hl
  refine lv_aload_n hx hb d_Pl_removeLastWall_0 rfl (lv_at hl 0 rfl) ?_
  refine va_get (D := D) (ci := 1) (v := .int nw) (C := R_Pl) (T := F_Pl) (N := 11) hx hb hw ku_Pl hown hK hP 0 rfl rfl 10 (by decide) (hw _ kw_733d4839) (fun _ h9 => h9) rfl d_Pl_removeLastWall_1 ?_
  refine lv_if_ne (tgt := 9) hx hb d_Pl_removeLastWall_4 (by decide) (fun c_4 => ?_) (fun c_4 => ?_)
  · skip
    refine lv_aload_n hx hb d_Pl_removeLastWall_9 rfl (lv_at hl 0 rfl) ?_
    refine lv_dup hx hb d_Pl_removeLastWall_10 rfl ?_
    refine va_get (D := D) (ci := 1) (v := .int nw) (C := R_Pl) (T := F_Pl) (N := 11) hx hb hw ku_Pl hown hK hP 0 rfl rfl 10 (by decide) (hw _ kw_733d4839) (fun _ h9 => h9) rfl d_Pl_removeLastWall_11 ?_
    refine lv_iconst (v := 1) hx hb d_Pl_removeLastWall_14 (by decide) ?_
    refine lv_isub hx hb d_Pl_removeLastWall_15 ?_
    refine va_put (D := D) (ci := 1) (v := .int (nw - 1)) (ty := t_Pl 10) (C := R_Pl) (T := F_Pl) (N := 11) hx hb hw ku_Pl t_Pl t_Pl_ok n_Pl hown hK hP hD hS 0 rfl rfl 10 (by decide) (hw _ kw_733d4839) (fun _ h9 => h9) rfl (t_Pl_ok 10 (by decide)) rfl rfl (Nat.le_of_ble_eq_true rfl) d_Pl_removeLastWall_16 (fun H locs hP hD hS => ?_)
    replace hP : va_P D sw_cl [(p, .inr (1, [.ref pX, .ref pY, .ref pF, .ref pC, .ref pA, .ref pB, .ref pR, .ref pK, .int nv, .int ns, .int (nw - 1)]))] H := hP
    replace hD : va_D A [(p, .inr (1, [.ref pX, .ref pY, .ref pF, .ref pC, .ref pA, .ref pB, .ref pR, .ref pK, .int nv, .int ns, .int (nw - 1)]))] := hD
    refine lv_iconst (v := 1) hx hb d_Pl_removeLastWall_19 (by decide) ?_
    have hP9 := hP.sub (ws' := [(p, .inr (1, [.ref pX, .ref pY, .ref pF, .ref pC, .ref pA, .ref pB, .ref pR, .ref pK, .int nv, .int ns, .int (nw - 1)]))]) [0] rfl
    have hD9 := hD.sub (ws' := [(p, .inr (1, [.ref pX, .ref pY, .ref pF, .ref pC, .ref pA, .ref pB, .ref pR, .ref pK, .int nv, .int ns, .int (nw - 1)]))]) [0] (by decide) rfl
    exact W.zret (ty := .boolean) (v := 1) hx hb hr (rfl) (fun T9 hT9 hW9 => ⟨⟨1, (nw - 1), rfl, by simp [sw_b, c_4], by rw [hT9]; exact hP9, hD9⟩, hS.F hT9⟩) hS.2.2 d_Pl_removeLastWall_20
  · skip
    refine lv_iconst (v := 0) hx hb d_Pl_removeLastWall_7 (by decide) ?_
    have hP9 := hP.sub (ws' := [(p, .inr (1, [.ref pX, .ref pY, .ref pF, .ref pC, .ref pA, .ref pB, .ref pR, .ref pK, .int nv, .int ns, .int nw]))]) [0] rfl
    have hD9 := hD.sub (ws' := [(p, .inr (1, [.ref pX, .ref pY, .ref pF, .ref pC, .ref pA, .ref pB, .ref pR, .ref pK, .int nv, .int ns, .int nw]))]) [0] (by decide) rfl
    exact W.zret (ty := .boolean) (v := 0) hx hb hr (rfl) (fun T9 hT9 hW9 => ⟨⟨0, nw, rfl, by simp [sw_b, c_4], by rw [hT9]; exact hP9, hD9⟩, hS.F hT9⟩) hS.2.2 d_Pl_removeLastWall_8

abbrev rm_Pl_makeEmpty : Room := { frames := 0, cells := 0, slots := 0, locals := 0 }
abbrev q_Pl_makeEmpty (D : va_G) (cI cL : ClassId) (A : Nat → Prop) (p : Nat) (pX : Nat) (pY : Nat) (pF : Nat) (pC : Nat) (pA : Nat) (pB : Nat) (pR : Nat) (pK : Nat) (nv : Int32) (ns : Int32) (nw : Int32) : Array Value → State → Outcome → State → Prop := va_Qv (S := Unit) (fun (_ : Unit) => True) (sw_R D A (fun (_ : Unit) => [(p, .inr (1, [.ref pX, .ref pY, .ref pF, .ref pC, .ref pA, .ref pB, .ref pR, .ref pK, .int 0, .int 0, .int 0]))])) A
set_option maxHeartbeats 4000000 in
set_option maxRecDepth 100000 in
theorem c_Pl_makeEmpty (l : Launch) (D : va_G) (cI cL : ClassId) (tq sz : Nat) (p : Nat) (pX : Nat) (pY : Nat) (pF : Nat) (pC : Nat) (pA : Nat) (pB : Nat) (pR : Nat) (pK : Nat) (nv : Int32) (ns : Int32) (nw : Int32) : Met l y_Pl_makeEmpty w_Pl_makeEmpty rm_Pl_makeEmpty (va_Pc [.ref p] (sw_B D cI cL tq sz [(p, .inr (1, [.ref pX, .ref pY, .ref pF, .ref pC, .ref pA, .ref pB, .ref pR, .ref pK, .int nv, .int ns, .int nw]))])) (q_Pl_makeEmpty D cI cL (va_A [(p, .inr (1, [.ref pX, .ref pY, .ref pF, .ref pC, .ref pA, .ref pB, .ref pR, .ref pK, .int nv, .int ns, .int nw]))] sz) p pX pY pF pC pA pB pR pK nv ns nw) 0 0 (va_A [(p, .inr (1, [.ref pX, .ref pY, .ref pF, .ref pC, .ref pA, .ref pB, .ref pR, .ref pK, .int nv, .int ns, .int nw]))] sz) := by
  refine Met.ofW (cc := b_Pl_makeEmpty) (maxL := 1) (ret := none) (by decide) rfl ?_
  intro mp me s mm args below meth mk s₁ B hml hv
  obtain ⟨rfl, hsz, hP, hK, hD0, hG⟩ := hv
  have hx := B.exec
  have hb := B.bytes
  have hr := B.returns
  have hts := atoms_spec (ws := w_Pl_makeEmpty) B.pre
  have hw : ∀ w ∈ sw_words, w.before _ s = true := fun w h => hts w (List.mem_cons_of_mem _ h)
  have hown : s.vm.findClass R_Pl = some mm.cls := findClass_of_methodNamed B.named
  have hlocks := B.notSynchronized
  subst hsz
  have hD := hD0.self (sz := s.heap.size)
  generalize hAe : va_A [(p, .inr (1, [.ref pX, .ref pY, .ref pF, .ref pC, .ref pA, .ref pB, .ref pR, .ref pK, .int nv, .int ns, .int nw]))] s.heap.size = A at hD hG ⊢
  have hA : ∀ q : Nat, s.heap.size ≤ q → A q := fun q h => by rw [← hAe]; exact Or.inr h
  have hS : va_S A s.heap s.heap [] := va_S.rf
  have hl := lv_entry ([.ref p]) (n := 1) (Nat.le_of_ble_eq_true rfl)
  rw [lg_entry_eq]
  generalize (lg_sl ([.ref p]) ++ List.replicate (1 - (lg_sl ([.ref p])).length) Slot.unset).toArray = ls at hl ⊢
  have hl : lv_has ls 1 [(0, .ref p)] := hl
  refine lv_aload_n hx hb d_Pl_makeEmpty_0 rfl (lv_at hl 0 rfl) ?_
  refine lv_iconst (v := 0) hx hb d_Pl_makeEmpty_1 (by decide) ?_
  refine va_put (D := D) (ci := 1) (v := .int 0) (ty := t_Pl 8) (C := R_Pl) (T := F_Pl) (N := 11) hx hb hw ku_Pl t_Pl t_Pl_ok n_Pl hown hK hP hD hS 0 rfl rfl 8 (by decide) (hw _ kw_ae77367f) (fun _ h9 => h9) rfl (t_Pl_ok 8 (by decide)) rfl rfl (Nat.le_of_ble_eq_true rfl) d_Pl_makeEmpty_2 (fun H locs hP hD hS => ?_)
  replace hP : va_P D sw_cl [(p, .inr (1, [.ref pX, .ref pY, .ref pF, .ref pC, .ref pA, .ref pB, .ref pR, .ref pK, .int 0, .int ns, .int nw]))] H := hP
  replace hD : va_D A [(p, .inr (1, [.ref pX, .ref pY, .ref pF, .ref pC, .ref pA, .ref pB, .ref pR, .ref pK, .int 0, .int ns, .int nw]))] := hD
  refine lv_aload_n hx hb d_Pl_makeEmpty_5 rfl (lv_at hl 0 rfl) ?_
  refine lv_iconst (v := 0) hx hb d_Pl_makeEmpty_6 (by decide) ?_
  refine va_put (D := D) (ci := 1) (v := .int 0) (ty := t_Pl 9) (C := R_Pl) (T := F_Pl) (N := 11) hx hb hw ku_Pl t_Pl t_Pl_ok n_Pl hown hK hP hD hS 0 rfl rfl 9 (by decide) (hw _ kw_8591057a) (fun _ h9 => h9) rfl (t_Pl_ok 9 (by decide)) rfl rfl (Nat.le_of_ble_eq_true rfl) d_Pl_makeEmpty_7 (fun H locs hP hD hS => ?_)
  replace hP : va_P D sw_cl [(p, .inr (1, [.ref pX, .ref pY, .ref pF, .ref pC, .ref pA, .ref pB, .ref pR, .ref pK, .int 0, .int 0, .int nw]))] H := hP
  replace hD : va_D A [(p, .inr (1, [.ref pX, .ref pY, .ref pF, .ref pC, .ref pA, .ref pB, .ref pR, .ref pK, .int 0, .int 0, .int nw]))] := hD
  refine lv_aload_n hx hb d_Pl_makeEmpty_10 rfl (lv_at hl 0 rfl) ?_
  refine lv_iconst (v := 0) hx hb d_Pl_makeEmpty_11 (by decide) ?_
  refine va_put (D := D) (ci := 1) (v := .int 0) (ty := t_Pl 10) (C := R_Pl) (T := F_Pl) (N := 11) hx hb hw ku_Pl t_Pl t_Pl_ok n_Pl hown hK hP hD hS 0 rfl rfl 10 (by decide) (hw _ kw_733d4839) (fun _ h9 => h9) rfl (t_Pl_ok 10 (by decide)) rfl rfl (Nat.le_of_ble_eq_true rfl) d_Pl_makeEmpty_12 (fun H locs hP hD hS => ?_)
  replace hP : va_P D sw_cl [(p, .inr (1, [.ref pX, .ref pY, .ref pF, .ref pC, .ref pA, .ref pB, .ref pR, .ref pK, .int 0, .int 0, .int 0]))] H := hP
  replace hD : va_D A [(p, .inr (1, [.ref pX, .ref pY, .ref pF, .ref pC, .ref pA, .ref pB, .ref pR, .ref pK, .int 0, .int 0, .int 0]))] := hD
  have hP9 := hP.sub (ws' := [(p, .inr (1, [.ref pX, .ref pY, .ref pF, .ref pC, .ref pA, .ref pB, .ref pR, .ref pK, .int 0, .int 0, .int 0]))]) [0] rfl
  have hD9 := hD.sub (ws' := [(p, .inr (1, [.ref pX, .ref pY, .ref pF, .ref pC, .ref pA, .ref pB, .ref pR, .ref pK, .int 0, .int 0, .int 0]))]) [0] (by decide) rfl
  exact W.vret hx hb hr (fun T9 hT9 hW9 => ⟨⟨(), rfl, by first | trivial | (simp []), by rw [hT9]; exact hP9, hD9⟩, hS.F hT9⟩) hS.2.2 d_Pl_makeEmpty_15

abbrev rm_Pl_becomeCopyOf : Room := { frames := 1, cells := 0, slots := 0, locals := 18 }
abbrev q_Pl_becomeCopyOf (D : va_G) (cI cL : ClassId) (A : Nat → Prop) (p : Nat) (o : Nat) (pX : Nat) (pY : Nat) (pF : Nat) (pC : Nat) (pA : Nat) (pB : Nat) (pR : Nat) (pK : Nat) (nv : Int32) (ns : Int32) (nw : Int32) (vx : Nat → Int32) (vy : Nat → Int32) (fl : Nat → Int32) (ce : Nat → Int32) (fa : Nat → Int32) (tb : Nat → Int32) (fr : Nat → Int32) (bk : Nat → Int32) (oX : Nat) (oY : Nat) (oF : Nat) (oC : Nat) (oA : Nat) (oB : Nat) (oR : Nat) (oK : Nat) (onv : Int32) (ons : Int32) (onw : Int32) (ovx : Nat → Int32) (ovy : Nat → Int32) (ofl : Nat → Int32) (oce : Nat → Int32) (ofa : Nat → Int32) (otb : Nat → Int32) (ofr : Nat → Int32) (obk : Nat → Int32) : Array Value → State → Outcome → State → Prop := va_Qv (S := Unit) (fun (_ : Unit) => True) (sw_R D A (fun (_ : Unit) => [(p, .inr (1, [.ref pX, .ref pY, .ref pF, .ref pC, .ref pA, .ref pB, .ref pR, .ref pK, .int onv, .int ons, .int onw])), (pX, .inl (cI, 64, .inl (va_cpy ovx vx (0 : Int32).toNatClampNeg (0 : Int32).toNatClampNeg (64 : Int32).toNatClampNeg))), (pY, .inl (cI, 64, .inl (va_cpy ovy vy (0 : Int32).toNatClampNeg (0 : Int32).toNatClampNeg (64 : Int32).toNatClampNeg))), (pF, .inl (cI, 16, .inl (va_cpy ofl fl (0 : Int32).toNatClampNeg (0 : Int32).toNatClampNeg (16 : Int32).toNatClampNeg))), (pC, .inl (cI, 16, .inl (va_cpy oce ce (0 : Int32).toNatClampNeg (0 : Int32).toNatClampNeg (16 : Int32).toNatClampNeg))), (pA, .inl (cI, 64, .inl (va_cpy ofa fa (0 : Int32).toNatClampNeg (0 : Int32).toNatClampNeg (64 : Int32).toNatClampNeg))), (pB, .inl (cI, 64, .inl (va_cpy otb tb (0 : Int32).toNatClampNeg (0 : Int32).toNatClampNeg (64 : Int32).toNatClampNeg))), (pR, .inl (cI, 64, .inl (va_cpy ofr fr (0 : Int32).toNatClampNeg (0 : Int32).toNatClampNeg (64 : Int32).toNatClampNeg))), (pK, .inl (cI, 64, .inl (va_cpy obk bk (0 : Int32).toNatClampNeg (0 : Int32).toNatClampNeg (64 : Int32).toNatClampNeg))), (o, .inr (1, [.ref oX, .ref oY, .ref oF, .ref oC, .ref oA, .ref oB, .ref oR, .ref oK, .int onv, .int ons, .int onw])), (oX, .inl (cI, 64, .inl ovx)), (oY, .inl (cI, 64, .inl ovy)), (oF, .inl (cI, 16, .inl ofl)), (oC, .inl (cI, 16, .inl oce)), (oA, .inl (cI, 64, .inl ofa)), (oB, .inl (cI, 64, .inl otb)), (oR, .inl (cI, 64, .inl ofr)), (oK, .inl (cI, 64, .inl obk))])) A
set_option maxHeartbeats 4000000 in
set_option maxRecDepth 100000 in
theorem c_Pl_becomeCopyOf (l : Launch) (D : va_G) (cI cL : ClassId) (tq sz : Nat) (p : Nat) (o : Nat) (pX : Nat) (pY : Nat) (pF : Nat) (pC : Nat) (pA : Nat) (pB : Nat) (pR : Nat) (pK : Nat) (nv : Int32) (ns : Int32) (nw : Int32) (vx : Nat → Int32) (vy : Nat → Int32) (fl : Nat → Int32) (ce : Nat → Int32) (fa : Nat → Int32) (tb : Nat → Int32) (fr : Nat → Int32) (bk : Nat → Int32) (oX : Nat) (oY : Nat) (oF : Nat) (oC : Nat) (oA : Nat) (oB : Nat) (oR : Nat) (oK : Nat) (onv : Int32) (ons : Int32) (onw : Int32) (ovx : Nat → Int32) (ovy : Nat → Int32) (ofl : Nat → Int32) (oce : Nat → Int32) (ofa : Nat → Int32) (otb : Nat → Int32) (ofr : Nat → Int32) (obk : Nat → Int32) : Met l y_Pl_becomeCopyOf w_Pl_becomeCopyOf rm_Pl_becomeCopyOf (va_Pc [.ref p, .ref o] (sw_B D cI cL tq sz [(p, .inr (1, [.ref pX, .ref pY, .ref pF, .ref pC, .ref pA, .ref pB, .ref pR, .ref pK, .int nv, .int ns, .int nw])), (pX, .inl (cI, 64, .inl vx)), (pY, .inl (cI, 64, .inl vy)), (pF, .inl (cI, 16, .inl fl)), (pC, .inl (cI, 16, .inl ce)), (pA, .inl (cI, 64, .inl fa)), (pB, .inl (cI, 64, .inl tb)), (pR, .inl (cI, 64, .inl fr)), (pK, .inl (cI, 64, .inl bk)), (o, .inr (1, [.ref oX, .ref oY, .ref oF, .ref oC, .ref oA, .ref oB, .ref oR, .ref oK, .int onv, .int ons, .int onw])), (oX, .inl (cI, 64, .inl ovx)), (oY, .inl (cI, 64, .inl ovy)), (oF, .inl (cI, 16, .inl ofl)), (oC, .inl (cI, 16, .inl oce)), (oA, .inl (cI, 64, .inl ofa)), (oB, .inl (cI, 64, .inl otb)), (oR, .inl (cI, 64, .inl ofr)), (oK, .inl (cI, 64, .inl obk))])) (q_Pl_becomeCopyOf D cI cL (va_A [(p, .inr (1, [.ref pX, .ref pY, .ref pF, .ref pC, .ref pA, .ref pB, .ref pR, .ref pK, .int nv, .int ns, .int nw])), (pX, .inl (cI, 64, .inl vx)), (pY, .inl (cI, 64, .inl vy)), (pF, .inl (cI, 16, .inl fl)), (pC, .inl (cI, 16, .inl ce)), (pA, .inl (cI, 64, .inl fa)), (pB, .inl (cI, 64, .inl tb)), (pR, .inl (cI, 64, .inl fr)), (pK, .inl (cI, 64, .inl bk)), (o, .inr (1, [.ref oX, .ref oY, .ref oF, .ref oC, .ref oA, .ref oB, .ref oR, .ref oK, .int onv, .int ons, .int onw])), (oX, .inl (cI, 64, .inl ovx)), (oY, .inl (cI, 64, .inl ovy)), (oF, .inl (cI, 16, .inl ofl)), (oC, .inl (cI, 16, .inl oce)), (oA, .inl (cI, 64, .inl ofa)), (oB, .inl (cI, 64, .inl otb)), (oR, .inl (cI, 64, .inl ofr)), (oK, .inl (cI, 64, .inl obk))] sz) p o pX pY pF pC pA pB pR pK nv ns nw vx vy fl ce fa tb fr bk oX oY oF oC oA oB oR oK onv ons onw ovx ovy ofl oce ofa otb ofr obk) 0 0 (va_A [(p, .inr (1, [.ref pX, .ref pY, .ref pF, .ref pC, .ref pA, .ref pB, .ref pR, .ref pK, .int nv, .int ns, .int nw])), (pX, .inl (cI, 64, .inl vx)), (pY, .inl (cI, 64, .inl vy)), (pF, .inl (cI, 16, .inl fl)), (pC, .inl (cI, 16, .inl ce)), (pA, .inl (cI, 64, .inl fa)), (pB, .inl (cI, 64, .inl tb)), (pR, .inl (cI, 64, .inl fr)), (pK, .inl (cI, 64, .inl bk)), (o, .inr (1, [.ref oX, .ref oY, .ref oF, .ref oC, .ref oA, .ref oB, .ref oR, .ref oK, .int onv, .int ons, .int onw])), (oX, .inl (cI, 64, .inl ovx)), (oY, .inl (cI, 64, .inl ovy)), (oF, .inl (cI, 16, .inl ofl)), (oC, .inl (cI, 16, .inl oce)), (oA, .inl (cI, 64, .inl ofa)), (oB, .inl (cI, 64, .inl otb)), (oR, .inl (cI, 64, .inl ofr)), (oK, .inl (cI, 64, .inl obk))] sz) := by
  refine Met.ofW (cc := b_Pl_becomeCopyOf) (maxL := 2) (ret := none) (by decide) rfl ?_
  intro mp me s mm args below meth mk s₁ B hml hv
  obtain ⟨rfl, hsz, hP, hK, hD0, hG⟩ := hv
  have hx := B.exec
  have hb := B.bytes
  have hr := B.returns
  have hts := atoms_spec (ws := w_Pl_becomeCopyOf) B.pre
  have hw : ∀ w ∈ sw_words, w.before _ s = true := fun w h => hts w (List.mem_cons_of_mem _ h)
  have hown : s.vm.findClass R_Pl = some mm.cls := findClass_of_methodNamed B.named
  have hlocks := B.notSynchronized
  subst hsz
  have hD := hD0.self (sz := s.heap.size)
  generalize hAe : va_A [(p, .inr (1, [.ref pX, .ref pY, .ref pF, .ref pC, .ref pA, .ref pB, .ref pR, .ref pK, .int nv, .int ns, .int nw])), (pX, .inl (cI, 64, .inl vx)), (pY, .inl (cI, 64, .inl vy)), (pF, .inl (cI, 16, .inl fl)), (pC, .inl (cI, 16, .inl ce)), (pA, .inl (cI, 64, .inl fa)), (pB, .inl (cI, 64, .inl tb)), (pR, .inl (cI, 64, .inl fr)), (pK, .inl (cI, 64, .inl bk)), (o, .inr (1, [.ref oX, .ref oY, .ref oF, .ref oC, .ref oA, .ref oB, .ref oR, .ref oK, .int onv, .int ons, .int onw])), (oX, .inl (cI, 64, .inl ovx)), (oY, .inl (cI, 64, .inl ovy)), (oF, .inl (cI, 16, .inl ofl)), (oC, .inl (cI, 16, .inl oce)), (oA, .inl (cI, 64, .inl ofa)), (oB, .inl (cI, 64, .inl otb)), (oR, .inl (cI, 64, .inl ofr)), (oK, .inl (cI, 64, .inl obk))] s.heap.size = A at hD hG ⊢
  have hA : ∀ q : Nat, s.heap.size ≤ q → A q := fun q h => by rw [← hAe]; exact Or.inr h
  have hS : va_S A s.heap s.heap [] := va_S.rf
  have hl := lv_entry ([.ref p, .ref o]) (n := 2) (Nat.le_of_ble_eq_true rfl)
  rw [lg_entry_eq]
  generalize (lg_sl ([.ref p, .ref o]) ++ List.replicate (2 - (lg_sl ([.ref p, .ref o])).length) Slot.unset).toArray = ls at hl ⊢
  have hl : lv_has ls 2 [(0, .ref p), (1, .ref o)] := hl
  refine lv_aload_n hx hb d_Pl_becomeCopyOf_0 rfl (lv_at hl 1 rfl) ?_
  refine va_get (D := D) (ci := 1) (v := .ref oX) (C := R_Pl) (T := F_Pl) (N := 11) hx hb hw ku_Pl hown hK hP 9 rfl rfl 0 (by decide) (hw _ kw_8234c2ed) (fun _ h9 => h9) rfl d_Pl_becomeCopyOf_1 ?_
  refine lv_iconst (v := 0) hx hb d_Pl_becomeCopyOf_4 (by decide) ?_
  refine lv_aload_n hx hb d_Pl_becomeCopyOf_5 rfl (lv_at hl 0 rfl) ?_
  refine va_get (D := D) (ci := 1) (v := .ref pX) (C := R_Pl) (T := F_Pl) (N := 11) hx hb hw ku_Pl hown hK hP 0 rfl rfl 0 (by decide) (hw _ kw_8234c2ed) (fun _ h9 => h9) rfl d_Pl_becomeCopyOf_6 ?_
  refine lv_iconst (v := 0) hx hb d_Pl_becomeCopyOf_9 (by decide) ?_
  refine lv_bipush (v := 64) hx hb d_Pl_becomeCopyOf_10 (by decide) ?_
  refine va_copyi hx hb (hml.trans hl.1.symm) hown (hw _ kw_d7e310f2) (hw _ kw_b3787360) (hw _ kw_4da6e29e) (hw _ kw_3dc9bfbd) hK hP hD hS 10 1 0 0 rfl rfl rfl rfl rfl (by decide) (by decide) (by decide) (by decide) (by decide) (fun _ _ => rfl) (Nat.le_of_ble_eq_true rfl) (by decide) d_Pl_becomeCopyOf_12 (fun H locs hP hD hS => ?_)
  replace hP : va_P D sw_cl [(p, .inr (1, [.ref pX, .ref pY, .ref pF, .ref pC, .ref pA, .ref pB, .ref pR, .ref pK, .int nv, .int ns, .int nw])), (pX, .inl (cI, 64, .inl (va_cpy ovx vx (0 : Int32).toNatClampNeg (0 : Int32).toNatClampNeg (64 : Int32).toNatClampNeg))), (pY, .inl (cI, 64, .inl vy)), (pF, .inl (cI, 16, .inl fl)), (pC, .inl (cI, 16, .inl ce)), (pA, .inl (cI, 64, .inl fa)), (pB, .inl (cI, 64, .inl tb)), (pR, .inl (cI, 64, .inl fr)), (pK, .inl (cI, 64, .inl bk)), (o, .inr (1, [.ref oX, .ref oY, .ref oF, .ref oC, .ref oA, .ref oB, .ref oR, .ref oK, .int onv, .int ons, .int onw])), (oX, .inl (cI, 64, .inl ovx)), (oY, .inl (cI, 64, .inl ovy)), (oF, .inl (cI, 16, .inl ofl)), (oC, .inl (cI, 16, .inl oce)), (oA, .inl (cI, 64, .inl ofa)), (oB, .inl (cI, 64, .inl otb)), (oR, .inl (cI, 64, .inl ofr)), (oK, .inl (cI, 64, .inl obk))] H := hP
  replace hD : va_D A [(p, .inr (1, [.ref pX, .ref pY, .ref pF, .ref pC, .ref pA, .ref pB, .ref pR, .ref pK, .int nv, .int ns, .int nw])), (pX, .inl (cI, 64, .inl (va_cpy ovx vx (0 : Int32).toNatClampNeg (0 : Int32).toNatClampNeg (64 : Int32).toNatClampNeg))), (pY, .inl (cI, 64, .inl vy)), (pF, .inl (cI, 16, .inl fl)), (pC, .inl (cI, 16, .inl ce)), (pA, .inl (cI, 64, .inl fa)), (pB, .inl (cI, 64, .inl tb)), (pR, .inl (cI, 64, .inl fr)), (pK, .inl (cI, 64, .inl bk)), (o, .inr (1, [.ref oX, .ref oY, .ref oF, .ref oC, .ref oA, .ref oB, .ref oR, .ref oK, .int onv, .int ons, .int onw])), (oX, .inl (cI, 64, .inl ovx)), (oY, .inl (cI, 64, .inl ovy)), (oF, .inl (cI, 16, .inl ofl)), (oC, .inl (cI, 16, .inl oce)), (oA, .inl (cI, 64, .inl ofa)), (oB, .inl (cI, 64, .inl otb)), (oR, .inl (cI, 64, .inl ofr)), (oK, .inl (cI, 64, .inl obk))] := hD
  refine lv_aload_n hx hb d_Pl_becomeCopyOf_15 rfl (lv_at hl 1 rfl) ?_
  refine va_get (D := D) (ci := 1) (v := .ref oY) (C := R_Pl) (T := F_Pl) (N := 11) hx hb hw ku_Pl hown hK hP 9 rfl rfl 1 (by decide) (hw _ kw_c8115e4c) (fun _ h9 => h9) rfl d_Pl_becomeCopyOf_16 ?_
  refine lv_iconst (v := 0) hx hb d_Pl_becomeCopyOf_19 (by decide) ?_
  refine lv_aload_n hx hb d_Pl_becomeCopyOf_20 rfl (lv_at hl 0 rfl) ?_
  refine va_get (D := D) (ci := 1) (v := .ref pY) (C := R_Pl) (T := F_Pl) (N := 11) hx hb hw ku_Pl hown hK hP 0 rfl rfl 1 (by decide) (hw _ kw_c8115e4c) (fun _ h9 => h9) rfl d_Pl_becomeCopyOf_21 ?_
  refine lv_iconst (v := 0) hx hb d_Pl_becomeCopyOf_24 (by decide) ?_
  refine lv_bipush (v := 64) hx hb d_Pl_becomeCopyOf_25 (by decide) ?_
  refine va_copyi hx hb (hml.trans hl.1.symm) hown (hw _ kw_d7e310f2) (hw _ kw_b3787360) (hw _ kw_4da6e29e) (hw _ kw_3dc9bfbd) hK hP hD hS 11 2 0 0 rfl rfl rfl rfl rfl (by decide) (by decide) (by decide) (by decide) (by decide) (fun _ _ => rfl) (Nat.le_of_ble_eq_true rfl) (by decide) d_Pl_becomeCopyOf_27 (fun H locs hP hD hS => ?_)
  replace hP : va_P D sw_cl [(p, .inr (1, [.ref pX, .ref pY, .ref pF, .ref pC, .ref pA, .ref pB, .ref pR, .ref pK, .int nv, .int ns, .int nw])), (pX, .inl (cI, 64, .inl (va_cpy ovx vx (0 : Int32).toNatClampNeg (0 : Int32).toNatClampNeg (64 : Int32).toNatClampNeg))), (pY, .inl (cI, 64, .inl (va_cpy ovy vy (0 : Int32).toNatClampNeg (0 : Int32).toNatClampNeg (64 : Int32).toNatClampNeg))), (pF, .inl (cI, 16, .inl fl)), (pC, .inl (cI, 16, .inl ce)), (pA, .inl (cI, 64, .inl fa)), (pB, .inl (cI, 64, .inl tb)), (pR, .inl (cI, 64, .inl fr)), (pK, .inl (cI, 64, .inl bk)), (o, .inr (1, [.ref oX, .ref oY, .ref oF, .ref oC, .ref oA, .ref oB, .ref oR, .ref oK, .int onv, .int ons, .int onw])), (oX, .inl (cI, 64, .inl ovx)), (oY, .inl (cI, 64, .inl ovy)), (oF, .inl (cI, 16, .inl ofl)), (oC, .inl (cI, 16, .inl oce)), (oA, .inl (cI, 64, .inl ofa)), (oB, .inl (cI, 64, .inl otb)), (oR, .inl (cI, 64, .inl ofr)), (oK, .inl (cI, 64, .inl obk))] H := hP
  replace hD : va_D A [(p, .inr (1, [.ref pX, .ref pY, .ref pF, .ref pC, .ref pA, .ref pB, .ref pR, .ref pK, .int nv, .int ns, .int nw])), (pX, .inl (cI, 64, .inl (va_cpy ovx vx (0 : Int32).toNatClampNeg (0 : Int32).toNatClampNeg (64 : Int32).toNatClampNeg))), (pY, .inl (cI, 64, .inl (va_cpy ovy vy (0 : Int32).toNatClampNeg (0 : Int32).toNatClampNeg (64 : Int32).toNatClampNeg))), (pF, .inl (cI, 16, .inl fl)), (pC, .inl (cI, 16, .inl ce)), (pA, .inl (cI, 64, .inl fa)), (pB, .inl (cI, 64, .inl tb)), (pR, .inl (cI, 64, .inl fr)), (pK, .inl (cI, 64, .inl bk)), (o, .inr (1, [.ref oX, .ref oY, .ref oF, .ref oC, .ref oA, .ref oB, .ref oR, .ref oK, .int onv, .int ons, .int onw])), (oX, .inl (cI, 64, .inl ovx)), (oY, .inl (cI, 64, .inl ovy)), (oF, .inl (cI, 16, .inl ofl)), (oC, .inl (cI, 16, .inl oce)), (oA, .inl (cI, 64, .inl ofa)), (oB, .inl (cI, 64, .inl otb)), (oR, .inl (cI, 64, .inl ofr)), (oK, .inl (cI, 64, .inl obk))] := hD
  refine lv_aload_n hx hb d_Pl_becomeCopyOf_30 rfl (lv_at hl 1 rfl) ?_
  refine va_get (D := D) (ci := 1) (v := .ref oF) (C := R_Pl) (T := F_Pl) (N := 11) hx hb hw ku_Pl hown hK hP 9 rfl rfl 2 (by decide) (hw _ kw_27d57bb8) (fun _ h9 => h9) rfl d_Pl_becomeCopyOf_31 ?_
  refine lv_iconst (v := 0) hx hb d_Pl_becomeCopyOf_34 (by decide) ?_
  refine lv_aload_n hx hb d_Pl_becomeCopyOf_35 rfl (lv_at hl 0 rfl) ?_
  refine va_get (D := D) (ci := 1) (v := .ref pF) (C := R_Pl) (T := F_Pl) (N := 11) hx hb hw ku_Pl hown hK hP 0 rfl rfl 2 (by decide) (hw _ kw_27d57bb8) (fun _ h9 => h9) rfl d_Pl_becomeCopyOf_36 ?_
  refine lv_iconst (v := 0) hx hb d_Pl_becomeCopyOf_39 (by decide) ?_
  refine lv_bipush (v := 16) hx hb d_Pl_becomeCopyOf_40 (by decide) ?_
  refine va_copyi hx hb (hml.trans hl.1.symm) hown (hw _ kw_d7e310f2) (hw _ kw_b3787360) (hw _ kw_4da6e29e) (hw _ kw_3dc9bfbd) hK hP hD hS 12 3 0 0 rfl rfl rfl rfl rfl (by decide) (by decide) (by decide) (by decide) (by decide) (fun _ _ => rfl) (Nat.le_of_ble_eq_true rfl) (by decide) d_Pl_becomeCopyOf_42 (fun H locs hP hD hS => ?_)
  replace hP : va_P D sw_cl [(p, .inr (1, [.ref pX, .ref pY, .ref pF, .ref pC, .ref pA, .ref pB, .ref pR, .ref pK, .int nv, .int ns, .int nw])), (pX, .inl (cI, 64, .inl (va_cpy ovx vx (0 : Int32).toNatClampNeg (0 : Int32).toNatClampNeg (64 : Int32).toNatClampNeg))), (pY, .inl (cI, 64, .inl (va_cpy ovy vy (0 : Int32).toNatClampNeg (0 : Int32).toNatClampNeg (64 : Int32).toNatClampNeg))), (pF, .inl (cI, 16, .inl (va_cpy ofl fl (0 : Int32).toNatClampNeg (0 : Int32).toNatClampNeg (16 : Int32).toNatClampNeg))), (pC, .inl (cI, 16, .inl ce)), (pA, .inl (cI, 64, .inl fa)), (pB, .inl (cI, 64, .inl tb)), (pR, .inl (cI, 64, .inl fr)), (pK, .inl (cI, 64, .inl bk)), (o, .inr (1, [.ref oX, .ref oY, .ref oF, .ref oC, .ref oA, .ref oB, .ref oR, .ref oK, .int onv, .int ons, .int onw])), (oX, .inl (cI, 64, .inl ovx)), (oY, .inl (cI, 64, .inl ovy)), (oF, .inl (cI, 16, .inl ofl)), (oC, .inl (cI, 16, .inl oce)), (oA, .inl (cI, 64, .inl ofa)), (oB, .inl (cI, 64, .inl otb)), (oR, .inl (cI, 64, .inl ofr)), (oK, .inl (cI, 64, .inl obk))] H := hP
  replace hD : va_D A [(p, .inr (1, [.ref pX, .ref pY, .ref pF, .ref pC, .ref pA, .ref pB, .ref pR, .ref pK, .int nv, .int ns, .int nw])), (pX, .inl (cI, 64, .inl (va_cpy ovx vx (0 : Int32).toNatClampNeg (0 : Int32).toNatClampNeg (64 : Int32).toNatClampNeg))), (pY, .inl (cI, 64, .inl (va_cpy ovy vy (0 : Int32).toNatClampNeg (0 : Int32).toNatClampNeg (64 : Int32).toNatClampNeg))), (pF, .inl (cI, 16, .inl (va_cpy ofl fl (0 : Int32).toNatClampNeg (0 : Int32).toNatClampNeg (16 : Int32).toNatClampNeg))), (pC, .inl (cI, 16, .inl ce)), (pA, .inl (cI, 64, .inl fa)), (pB, .inl (cI, 64, .inl tb)), (pR, .inl (cI, 64, .inl fr)), (pK, .inl (cI, 64, .inl bk)), (o, .inr (1, [.ref oX, .ref oY, .ref oF, .ref oC, .ref oA, .ref oB, .ref oR, .ref oK, .int onv, .int ons, .int onw])), (oX, .inl (cI, 64, .inl ovx)), (oY, .inl (cI, 64, .inl ovy)), (oF, .inl (cI, 16, .inl ofl)), (oC, .inl (cI, 16, .inl oce)), (oA, .inl (cI, 64, .inl ofa)), (oB, .inl (cI, 64, .inl otb)), (oR, .inl (cI, 64, .inl ofr)), (oK, .inl (cI, 64, .inl obk))] := hD
  refine lv_aload_n hx hb d_Pl_becomeCopyOf_45 rfl (lv_at hl 1 rfl) ?_
  refine va_get (D := D) (ci := 1) (v := .ref oC) (C := R_Pl) (T := F_Pl) (N := 11) hx hb hw ku_Pl hown hK hP 9 rfl rfl 3 (by decide) (hw _ kw_65f1a660) (fun _ h9 => h9) rfl d_Pl_becomeCopyOf_46 ?_
  refine lv_iconst (v := 0) hx hb d_Pl_becomeCopyOf_49 (by decide) ?_
  refine lv_aload_n hx hb d_Pl_becomeCopyOf_50 rfl (lv_at hl 0 rfl) ?_
  refine va_get (D := D) (ci := 1) (v := .ref pC) (C := R_Pl) (T := F_Pl) (N := 11) hx hb hw ku_Pl hown hK hP 0 rfl rfl 3 (by decide) (hw _ kw_65f1a660) (fun _ h9 => h9) rfl d_Pl_becomeCopyOf_51 ?_
  refine lv_iconst (v := 0) hx hb d_Pl_becomeCopyOf_54 (by decide) ?_
  refine lv_bipush (v := 16) hx hb d_Pl_becomeCopyOf_55 (by decide) ?_
  refine va_copyi hx hb (hml.trans hl.1.symm) hown (hw _ kw_d7e310f2) (hw _ kw_b3787360) (hw _ kw_4da6e29e) (hw _ kw_3dc9bfbd) hK hP hD hS 13 4 0 0 rfl rfl rfl rfl rfl (by decide) (by decide) (by decide) (by decide) (by decide) (fun _ _ => rfl) (Nat.le_of_ble_eq_true rfl) (by decide) d_Pl_becomeCopyOf_57 (fun H locs hP hD hS => ?_)
  replace hP : va_P D sw_cl [(p, .inr (1, [.ref pX, .ref pY, .ref pF, .ref pC, .ref pA, .ref pB, .ref pR, .ref pK, .int nv, .int ns, .int nw])), (pX, .inl (cI, 64, .inl (va_cpy ovx vx (0 : Int32).toNatClampNeg (0 : Int32).toNatClampNeg (64 : Int32).toNatClampNeg))), (pY, .inl (cI, 64, .inl (va_cpy ovy vy (0 : Int32).toNatClampNeg (0 : Int32).toNatClampNeg (64 : Int32).toNatClampNeg))), (pF, .inl (cI, 16, .inl (va_cpy ofl fl (0 : Int32).toNatClampNeg (0 : Int32).toNatClampNeg (16 : Int32).toNatClampNeg))), (pC, .inl (cI, 16, .inl (va_cpy oce ce (0 : Int32).toNatClampNeg (0 : Int32).toNatClampNeg (16 : Int32).toNatClampNeg))), (pA, .inl (cI, 64, .inl fa)), (pB, .inl (cI, 64, .inl tb)), (pR, .inl (cI, 64, .inl fr)), (pK, .inl (cI, 64, .inl bk)), (o, .inr (1, [.ref oX, .ref oY, .ref oF, .ref oC, .ref oA, .ref oB, .ref oR, .ref oK, .int onv, .int ons, .int onw])), (oX, .inl (cI, 64, .inl ovx)), (oY, .inl (cI, 64, .inl ovy)), (oF, .inl (cI, 16, .inl ofl)), (oC, .inl (cI, 16, .inl oce)), (oA, .inl (cI, 64, .inl ofa)), (oB, .inl (cI, 64, .inl otb)), (oR, .inl (cI, 64, .inl ofr)), (oK, .inl (cI, 64, .inl obk))] H := hP
  replace hD : va_D A [(p, .inr (1, [.ref pX, .ref pY, .ref pF, .ref pC, .ref pA, .ref pB, .ref pR, .ref pK, .int nv, .int ns, .int nw])), (pX, .inl (cI, 64, .inl (va_cpy ovx vx (0 : Int32).toNatClampNeg (0 : Int32).toNatClampNeg (64 : Int32).toNatClampNeg))), (pY, .inl (cI, 64, .inl (va_cpy ovy vy (0 : Int32).toNatClampNeg (0 : Int32).toNatClampNeg (64 : Int32).toNatClampNeg))), (pF, .inl (cI, 16, .inl (va_cpy ofl fl (0 : Int32).toNatClampNeg (0 : Int32).toNatClampNeg (16 : Int32).toNatClampNeg))), (pC, .inl (cI, 16, .inl (va_cpy oce ce (0 : Int32).toNatClampNeg (0 : Int32).toNatClampNeg (16 : Int32).toNatClampNeg))), (pA, .inl (cI, 64, .inl fa)), (pB, .inl (cI, 64, .inl tb)), (pR, .inl (cI, 64, .inl fr)), (pK, .inl (cI, 64, .inl bk)), (o, .inr (1, [.ref oX, .ref oY, .ref oF, .ref oC, .ref oA, .ref oB, .ref oR, .ref oK, .int onv, .int ons, .int onw])), (oX, .inl (cI, 64, .inl ovx)), (oY, .inl (cI, 64, .inl ovy)), (oF, .inl (cI, 16, .inl ofl)), (oC, .inl (cI, 16, .inl oce)), (oA, .inl (cI, 64, .inl ofa)), (oB, .inl (cI, 64, .inl otb)), (oR, .inl (cI, 64, .inl ofr)), (oK, .inl (cI, 64, .inl obk))] := hD
  refine lv_aload_n hx hb d_Pl_becomeCopyOf_60 rfl (lv_at hl 1 rfl) ?_
  refine va_get (D := D) (ci := 1) (v := .ref oA) (C := R_Pl) (T := F_Pl) (N := 11) hx hb hw ku_Pl hown hK hP 9 rfl rfl 4 (by decide) (hw _ kw_8b810f0c) (fun _ h9 => h9) rfl d_Pl_becomeCopyOf_61 ?_
  refine lv_iconst (v := 0) hx hb d_Pl_becomeCopyOf_64 (by decide) ?_
  refine lv_aload_n hx hb d_Pl_becomeCopyOf_65 rfl (lv_at hl 0 rfl) ?_
  refine va_get (D := D) (ci := 1) (v := .ref pA) (C := R_Pl) (T := F_Pl) (N := 11) hx hb hw ku_Pl hown hK hP 0 rfl rfl 4 (by decide) (hw _ kw_8b810f0c) (fun _ h9 => h9) rfl d_Pl_becomeCopyOf_66 ?_
  refine lv_iconst (v := 0) hx hb d_Pl_becomeCopyOf_69 (by decide) ?_
  refine lv_bipush (v := 64) hx hb d_Pl_becomeCopyOf_70 (by decide) ?_
  refine va_copyi hx hb (hml.trans hl.1.symm) hown (hw _ kw_d7e310f2) (hw _ kw_b3787360) (hw _ kw_4da6e29e) (hw _ kw_3dc9bfbd) hK hP hD hS 14 5 0 0 rfl rfl rfl rfl rfl (by decide) (by decide) (by decide) (by decide) (by decide) (fun _ _ => rfl) (Nat.le_of_ble_eq_true rfl) (by decide) d_Pl_becomeCopyOf_72 (fun H locs hP hD hS => ?_)
  replace hP : va_P D sw_cl [(p, .inr (1, [.ref pX, .ref pY, .ref pF, .ref pC, .ref pA, .ref pB, .ref pR, .ref pK, .int nv, .int ns, .int nw])), (pX, .inl (cI, 64, .inl (va_cpy ovx vx (0 : Int32).toNatClampNeg (0 : Int32).toNatClampNeg (64 : Int32).toNatClampNeg))), (pY, .inl (cI, 64, .inl (va_cpy ovy vy (0 : Int32).toNatClampNeg (0 : Int32).toNatClampNeg (64 : Int32).toNatClampNeg))), (pF, .inl (cI, 16, .inl (va_cpy ofl fl (0 : Int32).toNatClampNeg (0 : Int32).toNatClampNeg (16 : Int32).toNatClampNeg))), (pC, .inl (cI, 16, .inl (va_cpy oce ce (0 : Int32).toNatClampNeg (0 : Int32).toNatClampNeg (16 : Int32).toNatClampNeg))), (pA, .inl (cI, 64, .inl (va_cpy ofa fa (0 : Int32).toNatClampNeg (0 : Int32).toNatClampNeg (64 : Int32).toNatClampNeg))), (pB, .inl (cI, 64, .inl tb)), (pR, .inl (cI, 64, .inl fr)), (pK, .inl (cI, 64, .inl bk)), (o, .inr (1, [.ref oX, .ref oY, .ref oF, .ref oC, .ref oA, .ref oB, .ref oR, .ref oK, .int onv, .int ons, .int onw])), (oX, .inl (cI, 64, .inl ovx)), (oY, .inl (cI, 64, .inl ovy)), (oF, .inl (cI, 16, .inl ofl)), (oC, .inl (cI, 16, .inl oce)), (oA, .inl (cI, 64, .inl ofa)), (oB, .inl (cI, 64, .inl otb)), (oR, .inl (cI, 64, .inl ofr)), (oK, .inl (cI, 64, .inl obk))] H := hP
  replace hD : va_D A [(p, .inr (1, [.ref pX, .ref pY, .ref pF, .ref pC, .ref pA, .ref pB, .ref pR, .ref pK, .int nv, .int ns, .int nw])), (pX, .inl (cI, 64, .inl (va_cpy ovx vx (0 : Int32).toNatClampNeg (0 : Int32).toNatClampNeg (64 : Int32).toNatClampNeg))), (pY, .inl (cI, 64, .inl (va_cpy ovy vy (0 : Int32).toNatClampNeg (0 : Int32).toNatClampNeg (64 : Int32).toNatClampNeg))), (pF, .inl (cI, 16, .inl (va_cpy ofl fl (0 : Int32).toNatClampNeg (0 : Int32).toNatClampNeg (16 : Int32).toNatClampNeg))), (pC, .inl (cI, 16, .inl (va_cpy oce ce (0 : Int32).toNatClampNeg (0 : Int32).toNatClampNeg (16 : Int32).toNatClampNeg))), (pA, .inl (cI, 64, .inl (va_cpy ofa fa (0 : Int32).toNatClampNeg (0 : Int32).toNatClampNeg (64 : Int32).toNatClampNeg))), (pB, .inl (cI, 64, .inl tb)), (pR, .inl (cI, 64, .inl fr)), (pK, .inl (cI, 64, .inl bk)), (o, .inr (1, [.ref oX, .ref oY, .ref oF, .ref oC, .ref oA, .ref oB, .ref oR, .ref oK, .int onv, .int ons, .int onw])), (oX, .inl (cI, 64, .inl ovx)), (oY, .inl (cI, 64, .inl ovy)), (oF, .inl (cI, 16, .inl ofl)), (oC, .inl (cI, 16, .inl oce)), (oA, .inl (cI, 64, .inl ofa)), (oB, .inl (cI, 64, .inl otb)), (oR, .inl (cI, 64, .inl ofr)), (oK, .inl (cI, 64, .inl obk))] := hD
  refine lv_aload_n hx hb d_Pl_becomeCopyOf_75 rfl (lv_at hl 1 rfl) ?_
  refine va_get (D := D) (ci := 1) (v := .ref oB) (C := R_Pl) (T := F_Pl) (N := 11) hx hb hw ku_Pl hown hK hP 9 rfl rfl 5 (by decide) (hw _ kw_1e4d1ebb) (fun _ h9 => h9) rfl d_Pl_becomeCopyOf_76 ?_
  refine lv_iconst (v := 0) hx hb d_Pl_becomeCopyOf_79 (by decide) ?_
  refine lv_aload_n hx hb d_Pl_becomeCopyOf_80 rfl (lv_at hl 0 rfl) ?_
  refine va_get (D := D) (ci := 1) (v := .ref pB) (C := R_Pl) (T := F_Pl) (N := 11) hx hb hw ku_Pl hown hK hP 0 rfl rfl 5 (by decide) (hw _ kw_1e4d1ebb) (fun _ h9 => h9) rfl d_Pl_becomeCopyOf_81 ?_
  refine lv_iconst (v := 0) hx hb d_Pl_becomeCopyOf_84 (by decide) ?_
  refine lv_bipush (v := 64) hx hb d_Pl_becomeCopyOf_85 (by decide) ?_
  refine va_copyi hx hb (hml.trans hl.1.symm) hown (hw _ kw_d7e310f2) (hw _ kw_b3787360) (hw _ kw_4da6e29e) (hw _ kw_3dc9bfbd) hK hP hD hS 15 6 0 0 rfl rfl rfl rfl rfl (by decide) (by decide) (by decide) (by decide) (by decide) (fun _ _ => rfl) (Nat.le_of_ble_eq_true rfl) (by decide) d_Pl_becomeCopyOf_87 (fun H locs hP hD hS => ?_)
  replace hP : va_P D sw_cl [(p, .inr (1, [.ref pX, .ref pY, .ref pF, .ref pC, .ref pA, .ref pB, .ref pR, .ref pK, .int nv, .int ns, .int nw])), (pX, .inl (cI, 64, .inl (va_cpy ovx vx (0 : Int32).toNatClampNeg (0 : Int32).toNatClampNeg (64 : Int32).toNatClampNeg))), (pY, .inl (cI, 64, .inl (va_cpy ovy vy (0 : Int32).toNatClampNeg (0 : Int32).toNatClampNeg (64 : Int32).toNatClampNeg))), (pF, .inl (cI, 16, .inl (va_cpy ofl fl (0 : Int32).toNatClampNeg (0 : Int32).toNatClampNeg (16 : Int32).toNatClampNeg))), (pC, .inl (cI, 16, .inl (va_cpy oce ce (0 : Int32).toNatClampNeg (0 : Int32).toNatClampNeg (16 : Int32).toNatClampNeg))), (pA, .inl (cI, 64, .inl (va_cpy ofa fa (0 : Int32).toNatClampNeg (0 : Int32).toNatClampNeg (64 : Int32).toNatClampNeg))), (pB, .inl (cI, 64, .inl (va_cpy otb tb (0 : Int32).toNatClampNeg (0 : Int32).toNatClampNeg (64 : Int32).toNatClampNeg))), (pR, .inl (cI, 64, .inl fr)), (pK, .inl (cI, 64, .inl bk)), (o, .inr (1, [.ref oX, .ref oY, .ref oF, .ref oC, .ref oA, .ref oB, .ref oR, .ref oK, .int onv, .int ons, .int onw])), (oX, .inl (cI, 64, .inl ovx)), (oY, .inl (cI, 64, .inl ovy)), (oF, .inl (cI, 16, .inl ofl)), (oC, .inl (cI, 16, .inl oce)), (oA, .inl (cI, 64, .inl ofa)), (oB, .inl (cI, 64, .inl otb)), (oR, .inl (cI, 64, .inl ofr)), (oK, .inl (cI, 64, .inl obk))] H := hP
  replace hD : va_D A [(p, .inr (1, [.ref pX, .ref pY, .ref pF, .ref pC, .ref pA, .ref pB, .ref pR, .ref pK, .int nv, .int ns, .int nw])), (pX, .inl (cI, 64, .inl (va_cpy ovx vx (0 : Int32).toNatClampNeg (0 : Int32).toNatClampNeg (64 : Int32).toNatClampNeg))), (pY, .inl (cI, 64, .inl (va_cpy ovy vy (0 : Int32).toNatClampNeg (0 : Int32).toNatClampNeg (64 : Int32).toNatClampNeg))), (pF, .inl (cI, 16, .inl (va_cpy ofl fl (0 : Int32).toNatClampNeg (0 : Int32).toNatClampNeg (16 : Int32).toNatClampNeg))), (pC, .inl (cI, 16, .inl (va_cpy oce ce (0 : Int32).toNatClampNeg (0 : Int32).toNatClampNeg (16 : Int32).toNatClampNeg))), (pA, .inl (cI, 64, .inl (va_cpy ofa fa (0 : Int32).toNatClampNeg (0 : Int32).toNatClampNeg (64 : Int32).toNatClampNeg))), (pB, .inl (cI, 64, .inl (va_cpy otb tb (0 : Int32).toNatClampNeg (0 : Int32).toNatClampNeg (64 : Int32).toNatClampNeg))), (pR, .inl (cI, 64, .inl fr)), (pK, .inl (cI, 64, .inl bk)), (o, .inr (1, [.ref oX, .ref oY, .ref oF, .ref oC, .ref oA, .ref oB, .ref oR, .ref oK, .int onv, .int ons, .int onw])), (oX, .inl (cI, 64, .inl ovx)), (oY, .inl (cI, 64, .inl ovy)), (oF, .inl (cI, 16, .inl ofl)), (oC, .inl (cI, 16, .inl oce)), (oA, .inl (cI, 64, .inl ofa)), (oB, .inl (cI, 64, .inl otb)), (oR, .inl (cI, 64, .inl ofr)), (oK, .inl (cI, 64, .inl obk))] := hD
  refine lv_aload_n hx hb d_Pl_becomeCopyOf_90 rfl (lv_at hl 1 rfl) ?_
  refine va_get (D := D) (ci := 1) (v := .ref oR) (C := R_Pl) (T := F_Pl) (N := 11) hx hb hw ku_Pl hown hK hP 9 rfl rfl 6 (by decide) (hw _ kw_3f39eaf5) (fun _ h9 => h9) rfl d_Pl_becomeCopyOf_91 ?_
  refine lv_iconst (v := 0) hx hb d_Pl_becomeCopyOf_94 (by decide) ?_
  refine lv_aload_n hx hb d_Pl_becomeCopyOf_95 rfl (lv_at hl 0 rfl) ?_
  refine va_get (D := D) (ci := 1) (v := .ref pR) (C := R_Pl) (T := F_Pl) (N := 11) hx hb hw ku_Pl hown hK hP 0 rfl rfl 6 (by decide) (hw _ kw_3f39eaf5) (fun _ h9 => h9) rfl d_Pl_becomeCopyOf_96 ?_
  refine lv_iconst (v := 0) hx hb d_Pl_becomeCopyOf_99 (by decide) ?_
  refine lv_bipush (v := 64) hx hb d_Pl_becomeCopyOf_100 (by decide) ?_
  refine va_copyi hx hb (hml.trans hl.1.symm) hown (hw _ kw_d7e310f2) (hw _ kw_b3787360) (hw _ kw_4da6e29e) (hw _ kw_3dc9bfbd) hK hP hD hS 16 7 0 0 rfl rfl rfl rfl rfl (by decide) (by decide) (by decide) (by decide) (by decide) (fun _ _ => rfl) (Nat.le_of_ble_eq_true rfl) (by decide) d_Pl_becomeCopyOf_102 (fun H locs hP hD hS => ?_)
  replace hP : va_P D sw_cl [(p, .inr (1, [.ref pX, .ref pY, .ref pF, .ref pC, .ref pA, .ref pB, .ref pR, .ref pK, .int nv, .int ns, .int nw])), (pX, .inl (cI, 64, .inl (va_cpy ovx vx (0 : Int32).toNatClampNeg (0 : Int32).toNatClampNeg (64 : Int32).toNatClampNeg))), (pY, .inl (cI, 64, .inl (va_cpy ovy vy (0 : Int32).toNatClampNeg (0 : Int32).toNatClampNeg (64 : Int32).toNatClampNeg))), (pF, .inl (cI, 16, .inl (va_cpy ofl fl (0 : Int32).toNatClampNeg (0 : Int32).toNatClampNeg (16 : Int32).toNatClampNeg))), (pC, .inl (cI, 16, .inl (va_cpy oce ce (0 : Int32).toNatClampNeg (0 : Int32).toNatClampNeg (16 : Int32).toNatClampNeg))), (pA, .inl (cI, 64, .inl (va_cpy ofa fa (0 : Int32).toNatClampNeg (0 : Int32).toNatClampNeg (64 : Int32).toNatClampNeg))), (pB, .inl (cI, 64, .inl (va_cpy otb tb (0 : Int32).toNatClampNeg (0 : Int32).toNatClampNeg (64 : Int32).toNatClampNeg))), (pR, .inl (cI, 64, .inl (va_cpy ofr fr (0 : Int32).toNatClampNeg (0 : Int32).toNatClampNeg (64 : Int32).toNatClampNeg))), (pK, .inl (cI, 64, .inl bk)), (o, .inr (1, [.ref oX, .ref oY, .ref oF, .ref oC, .ref oA, .ref oB, .ref oR, .ref oK, .int onv, .int ons, .int onw])), (oX, .inl (cI, 64, .inl ovx)), (oY, .inl (cI, 64, .inl ovy)), (oF, .inl (cI, 16, .inl ofl)), (oC, .inl (cI, 16, .inl oce)), (oA, .inl (cI, 64, .inl ofa)), (oB, .inl (cI, 64, .inl otb)), (oR, .inl (cI, 64, .inl ofr)), (oK, .inl (cI, 64, .inl obk))] H := hP
  replace hD : va_D A [(p, .inr (1, [.ref pX, .ref pY, .ref pF, .ref pC, .ref pA, .ref pB, .ref pR, .ref pK, .int nv, .int ns, .int nw])), (pX, .inl (cI, 64, .inl (va_cpy ovx vx (0 : Int32).toNatClampNeg (0 : Int32).toNatClampNeg (64 : Int32).toNatClampNeg))), (pY, .inl (cI, 64, .inl (va_cpy ovy vy (0 : Int32).toNatClampNeg (0 : Int32).toNatClampNeg (64 : Int32).toNatClampNeg))), (pF, .inl (cI, 16, .inl (va_cpy ofl fl (0 : Int32).toNatClampNeg (0 : Int32).toNatClampNeg (16 : Int32).toNatClampNeg))), (pC, .inl (cI, 16, .inl (va_cpy oce ce (0 : Int32).toNatClampNeg (0 : Int32).toNatClampNeg (16 : Int32).toNatClampNeg))), (pA, .inl (cI, 64, .inl (va_cpy ofa fa (0 : Int32).toNatClampNeg (0 : Int32).toNatClampNeg (64 : Int32).toNatClampNeg))), (pB, .inl (cI, 64, .inl (va_cpy otb tb (0 : Int32).toNatClampNeg (0 : Int32).toNatClampNeg (64 : Int32).toNatClampNeg))), (pR, .inl (cI, 64, .inl (va_cpy ofr fr (0 : Int32).toNatClampNeg (0 : Int32).toNatClampNeg (64 : Int32).toNatClampNeg))), (pK, .inl (cI, 64, .inl bk)), (o, .inr (1, [.ref oX, .ref oY, .ref oF, .ref oC, .ref oA, .ref oB, .ref oR, .ref oK, .int onv, .int ons, .int onw])), (oX, .inl (cI, 64, .inl ovx)), (oY, .inl (cI, 64, .inl ovy)), (oF, .inl (cI, 16, .inl ofl)), (oC, .inl (cI, 16, .inl oce)), (oA, .inl (cI, 64, .inl ofa)), (oB, .inl (cI, 64, .inl otb)), (oR, .inl (cI, 64, .inl ofr)), (oK, .inl (cI, 64, .inl obk))] := hD
  refine lv_aload_n hx hb d_Pl_becomeCopyOf_105 rfl (lv_at hl 1 rfl) ?_
  refine va_get (D := D) (ci := 1) (v := .ref oK) (C := R_Pl) (T := F_Pl) (N := 11) hx hb hw ku_Pl hown hK hP 9 rfl rfl 7 (by decide) (hw _ kw_fa356e2a) (fun _ h9 => h9) rfl d_Pl_becomeCopyOf_106 ?_
  refine lv_iconst (v := 0) hx hb d_Pl_becomeCopyOf_109 (by decide) ?_
  refine lv_aload_n hx hb d_Pl_becomeCopyOf_110 rfl (lv_at hl 0 rfl) ?_
  refine va_get (D := D) (ci := 1) (v := .ref pK) (C := R_Pl) (T := F_Pl) (N := 11) hx hb hw ku_Pl hown hK hP 0 rfl rfl 7 (by decide) (hw _ kw_fa356e2a) (fun _ h9 => h9) rfl d_Pl_becomeCopyOf_111 ?_
  refine lv_iconst (v := 0) hx hb d_Pl_becomeCopyOf_114 (by decide) ?_
  refine lv_bipush (v := 64) hx hb d_Pl_becomeCopyOf_115 (by decide) ?_
  refine va_copyi hx hb (hml.trans hl.1.symm) hown (hw _ kw_d7e310f2) (hw _ kw_b3787360) (hw _ kw_4da6e29e) (hw _ kw_3dc9bfbd) hK hP hD hS 17 8 0 0 rfl rfl rfl rfl rfl (by decide) (by decide) (by decide) (by decide) (by decide) (fun _ _ => rfl) (Nat.le_of_ble_eq_true rfl) (by decide) d_Pl_becomeCopyOf_117 (fun H locs hP hD hS => ?_)
  replace hP : va_P D sw_cl [(p, .inr (1, [.ref pX, .ref pY, .ref pF, .ref pC, .ref pA, .ref pB, .ref pR, .ref pK, .int nv, .int ns, .int nw])), (pX, .inl (cI, 64, .inl (va_cpy ovx vx (0 : Int32).toNatClampNeg (0 : Int32).toNatClampNeg (64 : Int32).toNatClampNeg))), (pY, .inl (cI, 64, .inl (va_cpy ovy vy (0 : Int32).toNatClampNeg (0 : Int32).toNatClampNeg (64 : Int32).toNatClampNeg))), (pF, .inl (cI, 16, .inl (va_cpy ofl fl (0 : Int32).toNatClampNeg (0 : Int32).toNatClampNeg (16 : Int32).toNatClampNeg))), (pC, .inl (cI, 16, .inl (va_cpy oce ce (0 : Int32).toNatClampNeg (0 : Int32).toNatClampNeg (16 : Int32).toNatClampNeg))), (pA, .inl (cI, 64, .inl (va_cpy ofa fa (0 : Int32).toNatClampNeg (0 : Int32).toNatClampNeg (64 : Int32).toNatClampNeg))), (pB, .inl (cI, 64, .inl (va_cpy otb tb (0 : Int32).toNatClampNeg (0 : Int32).toNatClampNeg (64 : Int32).toNatClampNeg))), (pR, .inl (cI, 64, .inl (va_cpy ofr fr (0 : Int32).toNatClampNeg (0 : Int32).toNatClampNeg (64 : Int32).toNatClampNeg))), (pK, .inl (cI, 64, .inl (va_cpy obk bk (0 : Int32).toNatClampNeg (0 : Int32).toNatClampNeg (64 : Int32).toNatClampNeg))), (o, .inr (1, [.ref oX, .ref oY, .ref oF, .ref oC, .ref oA, .ref oB, .ref oR, .ref oK, .int onv, .int ons, .int onw])), (oX, .inl (cI, 64, .inl ovx)), (oY, .inl (cI, 64, .inl ovy)), (oF, .inl (cI, 16, .inl ofl)), (oC, .inl (cI, 16, .inl oce)), (oA, .inl (cI, 64, .inl ofa)), (oB, .inl (cI, 64, .inl otb)), (oR, .inl (cI, 64, .inl ofr)), (oK, .inl (cI, 64, .inl obk))] H := hP
  replace hD : va_D A [(p, .inr (1, [.ref pX, .ref pY, .ref pF, .ref pC, .ref pA, .ref pB, .ref pR, .ref pK, .int nv, .int ns, .int nw])), (pX, .inl (cI, 64, .inl (va_cpy ovx vx (0 : Int32).toNatClampNeg (0 : Int32).toNatClampNeg (64 : Int32).toNatClampNeg))), (pY, .inl (cI, 64, .inl (va_cpy ovy vy (0 : Int32).toNatClampNeg (0 : Int32).toNatClampNeg (64 : Int32).toNatClampNeg))), (pF, .inl (cI, 16, .inl (va_cpy ofl fl (0 : Int32).toNatClampNeg (0 : Int32).toNatClampNeg (16 : Int32).toNatClampNeg))), (pC, .inl (cI, 16, .inl (va_cpy oce ce (0 : Int32).toNatClampNeg (0 : Int32).toNatClampNeg (16 : Int32).toNatClampNeg))), (pA, .inl (cI, 64, .inl (va_cpy ofa fa (0 : Int32).toNatClampNeg (0 : Int32).toNatClampNeg (64 : Int32).toNatClampNeg))), (pB, .inl (cI, 64, .inl (va_cpy otb tb (0 : Int32).toNatClampNeg (0 : Int32).toNatClampNeg (64 : Int32).toNatClampNeg))), (pR, .inl (cI, 64, .inl (va_cpy ofr fr (0 : Int32).toNatClampNeg (0 : Int32).toNatClampNeg (64 : Int32).toNatClampNeg))), (pK, .inl (cI, 64, .inl (va_cpy obk bk (0 : Int32).toNatClampNeg (0 : Int32).toNatClampNeg (64 : Int32).toNatClampNeg))), (o, .inr (1, [.ref oX, .ref oY, .ref oF, .ref oC, .ref oA, .ref oB, .ref oR, .ref oK, .int onv, .int ons, .int onw])), (oX, .inl (cI, 64, .inl ovx)), (oY, .inl (cI, 64, .inl ovy)), (oF, .inl (cI, 16, .inl ofl)), (oC, .inl (cI, 16, .inl oce)), (oA, .inl (cI, 64, .inl ofa)), (oB, .inl (cI, 64, .inl otb)), (oR, .inl (cI, 64, .inl ofr)), (oK, .inl (cI, 64, .inl obk))] := hD
  refine lv_aload_n hx hb d_Pl_becomeCopyOf_120 rfl (lv_at hl 0 rfl) ?_
  refine lv_aload_n hx hb d_Pl_becomeCopyOf_121 rfl (lv_at hl 1 rfl) ?_
  refine va_get (D := D) (ci := 1) (v := .int onv) (C := R_Pl) (T := F_Pl) (N := 11) hx hb hw ku_Pl hown hK hP 9 rfl rfl 8 (by decide) (hw _ kw_ae77367f) (fun _ h9 => h9) rfl d_Pl_becomeCopyOf_122 ?_
  refine va_put (D := D) (ci := 1) (v := .int onv) (ty := t_Pl 8) (C := R_Pl) (T := F_Pl) (N := 11) hx hb hw ku_Pl t_Pl t_Pl_ok n_Pl hown hK hP hD hS 0 rfl rfl 8 (by decide) (hw _ kw_ae77367f) (fun _ h9 => h9) rfl (t_Pl_ok 8 (by decide)) rfl rfl (Nat.le_of_ble_eq_true rfl) d_Pl_becomeCopyOf_125 (fun H locs hP hD hS => ?_)
  replace hP : va_P D sw_cl [(p, .inr (1, [.ref pX, .ref pY, .ref pF, .ref pC, .ref pA, .ref pB, .ref pR, .ref pK, .int onv, .int ns, .int nw])), (pX, .inl (cI, 64, .inl (va_cpy ovx vx (0 : Int32).toNatClampNeg (0 : Int32).toNatClampNeg (64 : Int32).toNatClampNeg))), (pY, .inl (cI, 64, .inl (va_cpy ovy vy (0 : Int32).toNatClampNeg (0 : Int32).toNatClampNeg (64 : Int32).toNatClampNeg))), (pF, .inl (cI, 16, .inl (va_cpy ofl fl (0 : Int32).toNatClampNeg (0 : Int32).toNatClampNeg (16 : Int32).toNatClampNeg))), (pC, .inl (cI, 16, .inl (va_cpy oce ce (0 : Int32).toNatClampNeg (0 : Int32).toNatClampNeg (16 : Int32).toNatClampNeg))), (pA, .inl (cI, 64, .inl (va_cpy ofa fa (0 : Int32).toNatClampNeg (0 : Int32).toNatClampNeg (64 : Int32).toNatClampNeg))), (pB, .inl (cI, 64, .inl (va_cpy otb tb (0 : Int32).toNatClampNeg (0 : Int32).toNatClampNeg (64 : Int32).toNatClampNeg))), (pR, .inl (cI, 64, .inl (va_cpy ofr fr (0 : Int32).toNatClampNeg (0 : Int32).toNatClampNeg (64 : Int32).toNatClampNeg))), (pK, .inl (cI, 64, .inl (va_cpy obk bk (0 : Int32).toNatClampNeg (0 : Int32).toNatClampNeg (64 : Int32).toNatClampNeg))), (o, .inr (1, [.ref oX, .ref oY, .ref oF, .ref oC, .ref oA, .ref oB, .ref oR, .ref oK, .int onv, .int ons, .int onw])), (oX, .inl (cI, 64, .inl ovx)), (oY, .inl (cI, 64, .inl ovy)), (oF, .inl (cI, 16, .inl ofl)), (oC, .inl (cI, 16, .inl oce)), (oA, .inl (cI, 64, .inl ofa)), (oB, .inl (cI, 64, .inl otb)), (oR, .inl (cI, 64, .inl ofr)), (oK, .inl (cI, 64, .inl obk))] H := hP
  replace hD : va_D A [(p, .inr (1, [.ref pX, .ref pY, .ref pF, .ref pC, .ref pA, .ref pB, .ref pR, .ref pK, .int onv, .int ns, .int nw])), (pX, .inl (cI, 64, .inl (va_cpy ovx vx (0 : Int32).toNatClampNeg (0 : Int32).toNatClampNeg (64 : Int32).toNatClampNeg))), (pY, .inl (cI, 64, .inl (va_cpy ovy vy (0 : Int32).toNatClampNeg (0 : Int32).toNatClampNeg (64 : Int32).toNatClampNeg))), (pF, .inl (cI, 16, .inl (va_cpy ofl fl (0 : Int32).toNatClampNeg (0 : Int32).toNatClampNeg (16 : Int32).toNatClampNeg))), (pC, .inl (cI, 16, .inl (va_cpy oce ce (0 : Int32).toNatClampNeg (0 : Int32).toNatClampNeg (16 : Int32).toNatClampNeg))), (pA, .inl (cI, 64, .inl (va_cpy ofa fa (0 : Int32).toNatClampNeg (0 : Int32).toNatClampNeg (64 : Int32).toNatClampNeg))), (pB, .inl (cI, 64, .inl (va_cpy otb tb (0 : Int32).toNatClampNeg (0 : Int32).toNatClampNeg (64 : Int32).toNatClampNeg))), (pR, .inl (cI, 64, .inl (va_cpy ofr fr (0 : Int32).toNatClampNeg (0 : Int32).toNatClampNeg (64 : Int32).toNatClampNeg))), (pK, .inl (cI, 64, .inl (va_cpy obk bk (0 : Int32).toNatClampNeg (0 : Int32).toNatClampNeg (64 : Int32).toNatClampNeg))), (o, .inr (1, [.ref oX, .ref oY, .ref oF, .ref oC, .ref oA, .ref oB, .ref oR, .ref oK, .int onv, .int ons, .int onw])), (oX, .inl (cI, 64, .inl ovx)), (oY, .inl (cI, 64, .inl ovy)), (oF, .inl (cI, 16, .inl ofl)), (oC, .inl (cI, 16, .inl oce)), (oA, .inl (cI, 64, .inl ofa)), (oB, .inl (cI, 64, .inl otb)), (oR, .inl (cI, 64, .inl ofr)), (oK, .inl (cI, 64, .inl obk))] := hD
  refine lv_aload_n hx hb d_Pl_becomeCopyOf_128 rfl (lv_at hl 0 rfl) ?_
  refine lv_aload_n hx hb d_Pl_becomeCopyOf_129 rfl (lv_at hl 1 rfl) ?_
  refine va_get (D := D) (ci := 1) (v := .int ons) (C := R_Pl) (T := F_Pl) (N := 11) hx hb hw ku_Pl hown hK hP 9 rfl rfl 9 (by decide) (hw _ kw_8591057a) (fun _ h9 => h9) rfl d_Pl_becomeCopyOf_130 ?_
  refine va_put (D := D) (ci := 1) (v := .int ons) (ty := t_Pl 9) (C := R_Pl) (T := F_Pl) (N := 11) hx hb hw ku_Pl t_Pl t_Pl_ok n_Pl hown hK hP hD hS 0 rfl rfl 9 (by decide) (hw _ kw_8591057a) (fun _ h9 => h9) rfl (t_Pl_ok 9 (by decide)) rfl rfl (Nat.le_of_ble_eq_true rfl) d_Pl_becomeCopyOf_133 (fun H locs hP hD hS => ?_)
  replace hP : va_P D sw_cl [(p, .inr (1, [.ref pX, .ref pY, .ref pF, .ref pC, .ref pA, .ref pB, .ref pR, .ref pK, .int onv, .int ons, .int nw])), (pX, .inl (cI, 64, .inl (va_cpy ovx vx (0 : Int32).toNatClampNeg (0 : Int32).toNatClampNeg (64 : Int32).toNatClampNeg))), (pY, .inl (cI, 64, .inl (va_cpy ovy vy (0 : Int32).toNatClampNeg (0 : Int32).toNatClampNeg (64 : Int32).toNatClampNeg))), (pF, .inl (cI, 16, .inl (va_cpy ofl fl (0 : Int32).toNatClampNeg (0 : Int32).toNatClampNeg (16 : Int32).toNatClampNeg))), (pC, .inl (cI, 16, .inl (va_cpy oce ce (0 : Int32).toNatClampNeg (0 : Int32).toNatClampNeg (16 : Int32).toNatClampNeg))), (pA, .inl (cI, 64, .inl (va_cpy ofa fa (0 : Int32).toNatClampNeg (0 : Int32).toNatClampNeg (64 : Int32).toNatClampNeg))), (pB, .inl (cI, 64, .inl (va_cpy otb tb (0 : Int32).toNatClampNeg (0 : Int32).toNatClampNeg (64 : Int32).toNatClampNeg))), (pR, .inl (cI, 64, .inl (va_cpy ofr fr (0 : Int32).toNatClampNeg (0 : Int32).toNatClampNeg (64 : Int32).toNatClampNeg))), (pK, .inl (cI, 64, .inl (va_cpy obk bk (0 : Int32).toNatClampNeg (0 : Int32).toNatClampNeg (64 : Int32).toNatClampNeg))), (o, .inr (1, [.ref oX, .ref oY, .ref oF, .ref oC, .ref oA, .ref oB, .ref oR, .ref oK, .int onv, .int ons, .int onw])), (oX, .inl (cI, 64, .inl ovx)), (oY, .inl (cI, 64, .inl ovy)), (oF, .inl (cI, 16, .inl ofl)), (oC, .inl (cI, 16, .inl oce)), (oA, .inl (cI, 64, .inl ofa)), (oB, .inl (cI, 64, .inl otb)), (oR, .inl (cI, 64, .inl ofr)), (oK, .inl (cI, 64, .inl obk))] H := hP
  replace hD : va_D A [(p, .inr (1, [.ref pX, .ref pY, .ref pF, .ref pC, .ref pA, .ref pB, .ref pR, .ref pK, .int onv, .int ons, .int nw])), (pX, .inl (cI, 64, .inl (va_cpy ovx vx (0 : Int32).toNatClampNeg (0 : Int32).toNatClampNeg (64 : Int32).toNatClampNeg))), (pY, .inl (cI, 64, .inl (va_cpy ovy vy (0 : Int32).toNatClampNeg (0 : Int32).toNatClampNeg (64 : Int32).toNatClampNeg))), (pF, .inl (cI, 16, .inl (va_cpy ofl fl (0 : Int32).toNatClampNeg (0 : Int32).toNatClampNeg (16 : Int32).toNatClampNeg))), (pC, .inl (cI, 16, .inl (va_cpy oce ce (0 : Int32).toNatClampNeg (0 : Int32).toNatClampNeg (16 : Int32).toNatClampNeg))), (pA, .inl (cI, 64, .inl (va_cpy ofa fa (0 : Int32).toNatClampNeg (0 : Int32).toNatClampNeg (64 : Int32).toNatClampNeg))), (pB, .inl (cI, 64, .inl (va_cpy otb tb (0 : Int32).toNatClampNeg (0 : Int32).toNatClampNeg (64 : Int32).toNatClampNeg))), (pR, .inl (cI, 64, .inl (va_cpy ofr fr (0 : Int32).toNatClampNeg (0 : Int32).toNatClampNeg (64 : Int32).toNatClampNeg))), (pK, .inl (cI, 64, .inl (va_cpy obk bk (0 : Int32).toNatClampNeg (0 : Int32).toNatClampNeg (64 : Int32).toNatClampNeg))), (o, .inr (1, [.ref oX, .ref oY, .ref oF, .ref oC, .ref oA, .ref oB, .ref oR, .ref oK, .int onv, .int ons, .int onw])), (oX, .inl (cI, 64, .inl ovx)), (oY, .inl (cI, 64, .inl ovy)), (oF, .inl (cI, 16, .inl ofl)), (oC, .inl (cI, 16, .inl oce)), (oA, .inl (cI, 64, .inl ofa)), (oB, .inl (cI, 64, .inl otb)), (oR, .inl (cI, 64, .inl ofr)), (oK, .inl (cI, 64, .inl obk))] := hD
  refine lv_aload_n hx hb d_Pl_becomeCopyOf_136 rfl (lv_at hl 0 rfl) ?_
  refine lv_aload_n hx hb d_Pl_becomeCopyOf_137 rfl (lv_at hl 1 rfl) ?_
  refine va_get (D := D) (ci := 1) (v := .int onw) (C := R_Pl) (T := F_Pl) (N := 11) hx hb hw ku_Pl hown hK hP 9 rfl rfl 10 (by decide) (hw _ kw_733d4839) (fun _ h9 => h9) rfl d_Pl_becomeCopyOf_138 ?_
  refine va_put (D := D) (ci := 1) (v := .int onw) (ty := t_Pl 10) (C := R_Pl) (T := F_Pl) (N := 11) hx hb hw ku_Pl t_Pl t_Pl_ok n_Pl hown hK hP hD hS 0 rfl rfl 10 (by decide) (hw _ kw_733d4839) (fun _ h9 => h9) rfl (t_Pl_ok 10 (by decide)) rfl rfl (Nat.le_of_ble_eq_true rfl) d_Pl_becomeCopyOf_141 (fun H locs hP hD hS => ?_)
  replace hP : va_P D sw_cl [(p, .inr (1, [.ref pX, .ref pY, .ref pF, .ref pC, .ref pA, .ref pB, .ref pR, .ref pK, .int onv, .int ons, .int onw])), (pX, .inl (cI, 64, .inl (va_cpy ovx vx (0 : Int32).toNatClampNeg (0 : Int32).toNatClampNeg (64 : Int32).toNatClampNeg))), (pY, .inl (cI, 64, .inl (va_cpy ovy vy (0 : Int32).toNatClampNeg (0 : Int32).toNatClampNeg (64 : Int32).toNatClampNeg))), (pF, .inl (cI, 16, .inl (va_cpy ofl fl (0 : Int32).toNatClampNeg (0 : Int32).toNatClampNeg (16 : Int32).toNatClampNeg))), (pC, .inl (cI, 16, .inl (va_cpy oce ce (0 : Int32).toNatClampNeg (0 : Int32).toNatClampNeg (16 : Int32).toNatClampNeg))), (pA, .inl (cI, 64, .inl (va_cpy ofa fa (0 : Int32).toNatClampNeg (0 : Int32).toNatClampNeg (64 : Int32).toNatClampNeg))), (pB, .inl (cI, 64, .inl (va_cpy otb tb (0 : Int32).toNatClampNeg (0 : Int32).toNatClampNeg (64 : Int32).toNatClampNeg))), (pR, .inl (cI, 64, .inl (va_cpy ofr fr (0 : Int32).toNatClampNeg (0 : Int32).toNatClampNeg (64 : Int32).toNatClampNeg))), (pK, .inl (cI, 64, .inl (va_cpy obk bk (0 : Int32).toNatClampNeg (0 : Int32).toNatClampNeg (64 : Int32).toNatClampNeg))), (o, .inr (1, [.ref oX, .ref oY, .ref oF, .ref oC, .ref oA, .ref oB, .ref oR, .ref oK, .int onv, .int ons, .int onw])), (oX, .inl (cI, 64, .inl ovx)), (oY, .inl (cI, 64, .inl ovy)), (oF, .inl (cI, 16, .inl ofl)), (oC, .inl (cI, 16, .inl oce)), (oA, .inl (cI, 64, .inl ofa)), (oB, .inl (cI, 64, .inl otb)), (oR, .inl (cI, 64, .inl ofr)), (oK, .inl (cI, 64, .inl obk))] H := hP
  replace hD : va_D A [(p, .inr (1, [.ref pX, .ref pY, .ref pF, .ref pC, .ref pA, .ref pB, .ref pR, .ref pK, .int onv, .int ons, .int onw])), (pX, .inl (cI, 64, .inl (va_cpy ovx vx (0 : Int32).toNatClampNeg (0 : Int32).toNatClampNeg (64 : Int32).toNatClampNeg))), (pY, .inl (cI, 64, .inl (va_cpy ovy vy (0 : Int32).toNatClampNeg (0 : Int32).toNatClampNeg (64 : Int32).toNatClampNeg))), (pF, .inl (cI, 16, .inl (va_cpy ofl fl (0 : Int32).toNatClampNeg (0 : Int32).toNatClampNeg (16 : Int32).toNatClampNeg))), (pC, .inl (cI, 16, .inl (va_cpy oce ce (0 : Int32).toNatClampNeg (0 : Int32).toNatClampNeg (16 : Int32).toNatClampNeg))), (pA, .inl (cI, 64, .inl (va_cpy ofa fa (0 : Int32).toNatClampNeg (0 : Int32).toNatClampNeg (64 : Int32).toNatClampNeg))), (pB, .inl (cI, 64, .inl (va_cpy otb tb (0 : Int32).toNatClampNeg (0 : Int32).toNatClampNeg (64 : Int32).toNatClampNeg))), (pR, .inl (cI, 64, .inl (va_cpy ofr fr (0 : Int32).toNatClampNeg (0 : Int32).toNatClampNeg (64 : Int32).toNatClampNeg))), (pK, .inl (cI, 64, .inl (va_cpy obk bk (0 : Int32).toNatClampNeg (0 : Int32).toNatClampNeg (64 : Int32).toNatClampNeg))), (o, .inr (1, [.ref oX, .ref oY, .ref oF, .ref oC, .ref oA, .ref oB, .ref oR, .ref oK, .int onv, .int ons, .int onw])), (oX, .inl (cI, 64, .inl ovx)), (oY, .inl (cI, 64, .inl ovy)), (oF, .inl (cI, 16, .inl ofl)), (oC, .inl (cI, 16, .inl oce)), (oA, .inl (cI, 64, .inl ofa)), (oB, .inl (cI, 64, .inl otb)), (oR, .inl (cI, 64, .inl ofr)), (oK, .inl (cI, 64, .inl obk))] := hD
  have hP9 := hP.sub (ws' := [(p, .inr (1, [.ref pX, .ref pY, .ref pF, .ref pC, .ref pA, .ref pB, .ref pR, .ref pK, .int onv, .int ons, .int onw])), (pX, .inl (cI, 64, .inl (va_cpy ovx vx (0 : Int32).toNatClampNeg (0 : Int32).toNatClampNeg (64 : Int32).toNatClampNeg))), (pY, .inl (cI, 64, .inl (va_cpy ovy vy (0 : Int32).toNatClampNeg (0 : Int32).toNatClampNeg (64 : Int32).toNatClampNeg))), (pF, .inl (cI, 16, .inl (va_cpy ofl fl (0 : Int32).toNatClampNeg (0 : Int32).toNatClampNeg (16 : Int32).toNatClampNeg))), (pC, .inl (cI, 16, .inl (va_cpy oce ce (0 : Int32).toNatClampNeg (0 : Int32).toNatClampNeg (16 : Int32).toNatClampNeg))), (pA, .inl (cI, 64, .inl (va_cpy ofa fa (0 : Int32).toNatClampNeg (0 : Int32).toNatClampNeg (64 : Int32).toNatClampNeg))), (pB, .inl (cI, 64, .inl (va_cpy otb tb (0 : Int32).toNatClampNeg (0 : Int32).toNatClampNeg (64 : Int32).toNatClampNeg))), (pR, .inl (cI, 64, .inl (va_cpy ofr fr (0 : Int32).toNatClampNeg (0 : Int32).toNatClampNeg (64 : Int32).toNatClampNeg))), (pK, .inl (cI, 64, .inl (va_cpy obk bk (0 : Int32).toNatClampNeg (0 : Int32).toNatClampNeg (64 : Int32).toNatClampNeg))), (o, .inr (1, [.ref oX, .ref oY, .ref oF, .ref oC, .ref oA, .ref oB, .ref oR, .ref oK, .int onv, .int ons, .int onw])), (oX, .inl (cI, 64, .inl ovx)), (oY, .inl (cI, 64, .inl ovy)), (oF, .inl (cI, 16, .inl ofl)), (oC, .inl (cI, 16, .inl oce)), (oA, .inl (cI, 64, .inl ofa)), (oB, .inl (cI, 64, .inl otb)), (oR, .inl (cI, 64, .inl ofr)), (oK, .inl (cI, 64, .inl obk))]) [0, 1, 2, 3, 4, 5, 6, 7, 8, 9, 10, 11, 12, 13, 14, 15, 16, 17] rfl
  have hD9 := hD.sub (ws' := [(p, .inr (1, [.ref pX, .ref pY, .ref pF, .ref pC, .ref pA, .ref pB, .ref pR, .ref pK, .int onv, .int ons, .int onw])), (pX, .inl (cI, 64, .inl (va_cpy ovx vx (0 : Int32).toNatClampNeg (0 : Int32).toNatClampNeg (64 : Int32).toNatClampNeg))), (pY, .inl (cI, 64, .inl (va_cpy ovy vy (0 : Int32).toNatClampNeg (0 : Int32).toNatClampNeg (64 : Int32).toNatClampNeg))), (pF, .inl (cI, 16, .inl (va_cpy ofl fl (0 : Int32).toNatClampNeg (0 : Int32).toNatClampNeg (16 : Int32).toNatClampNeg))), (pC, .inl (cI, 16, .inl (va_cpy oce ce (0 : Int32).toNatClampNeg (0 : Int32).toNatClampNeg (16 : Int32).toNatClampNeg))), (pA, .inl (cI, 64, .inl (va_cpy ofa fa (0 : Int32).toNatClampNeg (0 : Int32).toNatClampNeg (64 : Int32).toNatClampNeg))), (pB, .inl (cI, 64, .inl (va_cpy otb tb (0 : Int32).toNatClampNeg (0 : Int32).toNatClampNeg (64 : Int32).toNatClampNeg))), (pR, .inl (cI, 64, .inl (va_cpy ofr fr (0 : Int32).toNatClampNeg (0 : Int32).toNatClampNeg (64 : Int32).toNatClampNeg))), (pK, .inl (cI, 64, .inl (va_cpy obk bk (0 : Int32).toNatClampNeg (0 : Int32).toNatClampNeg (64 : Int32).toNatClampNeg))), (o, .inr (1, [.ref oX, .ref oY, .ref oF, .ref oC, .ref oA, .ref oB, .ref oR, .ref oK, .int onv, .int ons, .int onw])), (oX, .inl (cI, 64, .inl ovx)), (oY, .inl (cI, 64, .inl ovy)), (oF, .inl (cI, 16, .inl ofl)), (oC, .inl (cI, 16, .inl oce)), (oA, .inl (cI, 64, .inl ofa)), (oB, .inl (cI, 64, .inl otb)), (oR, .inl (cI, 64, .inl ofr)), (oK, .inl (cI, 64, .inl obk))]) [0, 1, 2, 3, 4, 5, 6, 7, 8, 9, 10, 11, 12, 13, 14, 15, 16, 17] (by decide) rfl
  exact W.vret hx hb hr (fun T9 hT9 hW9 => ⟨⟨(), rfl, by first | trivial | (simp []), by rw [hT9]; exact hP9, hD9⟩, hS.F hT9⟩) hS.2.2 d_Pl_becomeCopyOf_144

abbrev rm_Ta_append : Room := { frames := 0, cells := 0, slots := 0, locals := 0 }
abbrev q_Ta_append (D : va_G) (cI cL : ClassId) (A : Nat → Prop) (t : Nat) (x : Int32) (y : Int32) (z : Int32) (t1 : Nat) (t2 : Nat) (t3 : Nat) (nt : Int32) (ia : Nat → Int32) (ib : Nat → Int32) (ic : Nat → Int32) : Array Value → State → Outcome → State → Prop := va_Qi (S := Int32 × (Nat → Int32) × (Nat → Int32) × (Nat → Int32)) (fun (r : Int32) => fun (u : Int32 × (Nat → Int32) × (Nat → Int32) × (Nat → Int32)) => match u with | (nt2, ia2, ib2, ic2) => r = (if decide (nt < 256) = true then nt + 1 else -1) ∧ nt2 = (if decide (nt < 256) = true then nt + 1 else nt) ∧ ia2 = (if decide (nt < 256) = true then upd ia nt.toNatClampNeg x else ia) ∧ ib2 = (if decide (nt < 256) = true then upd ib nt.toNatClampNeg y else ib) ∧ ic2 = (if decide (nt < 256) = true then upd ic nt.toNatClampNeg z else ic)) (sw_R D A (fun (u : Int32 × (Nat → Int32) × (Nat → Int32) × (Nat → Int32)) => match u with | (nt2, ia2, ib2, ic2) => [(t, .inr (2, [.ref t1, .ref t2, .ref t3, .int nt2])), (t1, .inl (cI, 256, .inl ia2)), (t2, .inl (cI, 256, .inl ib2)), (t3, .inl (cI, 256, .inl ic2))])) A
set_option maxHeartbeats 4000000 in
set_option maxRecDepth 100000 in
theorem c_Ta_append (l : Launch) (D : va_G) (cI cL : ClassId) (tq sz : Nat) (t : Nat) (x : Int32) (y : Int32) (z : Int32) (t1 : Nat) (t2 : Nat) (t3 : Nat) (nt : Int32) (ia : Nat → Int32) (ib : Nat → Int32) (ic : Nat → Int32) (hn : sw_ok nt 256) : Met l y_Ta_append w_Ta_append rm_Ta_append (va_Pc [.ref t, .int x, .int y, .int z] (sw_B D cI cL tq sz [(t, .inr (2, [.ref t1, .ref t2, .ref t3, .int nt])), (t1, .inl (cI, 256, .inl ia)), (t2, .inl (cI, 256, .inl ib)), (t3, .inl (cI, 256, .inl ic))])) (q_Ta_append D cI cL (va_A [(t, .inr (2, [.ref t1, .ref t2, .ref t3, .int nt])), (t1, .inl (cI, 256, .inl ia)), (t2, .inl (cI, 256, .inl ib)), (t3, .inl (cI, 256, .inl ic))] sz) t x y z t1 t2 t3 nt ia ib ic) 0 0 (va_A [(t, .inr (2, [.ref t1, .ref t2, .ref t3, .int nt])), (t1, .inl (cI, 256, .inl ia)), (t2, .inl (cI, 256, .inl ib)), (t3, .inl (cI, 256, .inl ic))] sz) := by
  refine Met.ofW (cc := b_Ta_append) (maxL := 4) (ret := (some .int)) (by decide) rfl ?_
  intro mp me s mm args below meth mk s₁ B hml hv
  obtain ⟨rfl, hsz, hP, hK, hD0, hG⟩ := hv
  have hx := B.exec
  have hb := B.bytes
  have hr := B.returns
  have hts := atoms_spec (ws := w_Ta_append) B.pre
  have hw : ∀ w ∈ sw_words, w.before _ s = true := fun w h => hts w (List.mem_cons_of_mem _ h)
  have hown : s.vm.findClass R_Ta = some mm.cls := findClass_of_methodNamed B.named
  have hlocks := B.notSynchronized
  subst hsz
  have hD := hD0.self (sz := s.heap.size)
  generalize hAe : va_A [(t, .inr (2, [.ref t1, .ref t2, .ref t3, .int nt])), (t1, .inl (cI, 256, .inl ia)), (t2, .inl (cI, 256, .inl ib)), (t3, .inl (cI, 256, .inl ic))] s.heap.size = A at hD hG ⊢
  have hA : ∀ q : Nat, s.heap.size ≤ q → A q := fun q h => by rw [← hAe]; exact Or.inr h
  have hS : va_S A s.heap s.heap [] := va_S.rf
  have hl := lv_entry ([.ref t, .int x, .int y, .int z]) (n := 4) (Nat.le_of_ble_eq_true rfl)
  rw [lg_entry_eq]
  generalize (lg_sl ([.ref t, .int x, .int y, .int z]) ++ List.replicate (4 - (lg_sl ([.ref t, .int x, .int y, .int z])).length) Slot.unset).toArray = ls at hl ⊢
  have hl : lv_has ls 4 [(0, .ref t), (1, .int x), (2, .int y), (3, .int z)] := hl
  refine lv_aload_n hx hb d_Ta_append_0 rfl (lv_at hl 0 rfl) ?_
  refine va_get (D := D) (ci := 2) (v := .int nt) (C := R_Ta) (T := F_Ta) (N := 4) hx hb hw ku_Ta hown hK hP 0 rfl rfl 3 (by decide) (hw _ kw_8163ed3a) (fun _ h9 => h9) rfl d_Ta_append_1 ?_
  refine lv_sipush (v := 256) hx hb d_Ta_append_4 (by decide) ?_
  refine lv_icmp_lt (tgt := 12) hx hb d_Ta_append_7 (by decide) (fun c_7 => ?_) (fun c_7 => ?_)
  · skip
    have hin1 : vp_in nt 256 := sw_okin2 hn c_7
    refine lv_aload_n hx hb d_Ta_append_12 rfl (lv_at hl 0 rfl) ?_
    refine va_get (D := D) (ci := 2) (v := .ref t1) (C := R_Ta) (T := F_Ta) (N := 4) hx hb hw ku_Ta hown hK hP 0 rfl rfl 0 (by decide) (hw _ kw_a5894e3b) (fun _ h9 => h9) rfl d_Ta_append_13 ?_
    refine lv_aload_n hx hb d_Ta_append_16 rfl (lv_at hl 0 rfl) ?_
    refine va_get (D := D) (ci := 2) (v := .int nt) (C := R_Ta) (T := F_Ta) (N := 4) hx hb hw ku_Ta hown hK hP 0 rfl rfl 3 (by decide) (hw _ kw_8163ed3a) (fun _ h9 => h9) rfl d_Ta_append_17 ?_
    refine lv_iload_n hx hb d_Ta_append_20 rfl (lv_at hl 1 rfl) ?_
    refine va_iast hx hb hK hP hD hS 1 0 rfl rfl (by assumption) d_Ta_append_21 (fun H locs hP hD hS => ?_)
    replace hP : va_P D sw_cl [(t, .inr (2, [.ref t1, .ref t2, .ref t3, .int nt])), (t1, .inl (cI, 256, .inl (upd ia nt.toNatClampNeg x))), (t2, .inl (cI, 256, .inl ib)), (t3, .inl (cI, 256, .inl ic))] H := hP
    replace hD : va_D A [(t, .inr (2, [.ref t1, .ref t2, .ref t3, .int nt])), (t1, .inl (cI, 256, .inl (upd ia nt.toNatClampNeg x))), (t2, .inl (cI, 256, .inl ib)), (t3, .inl (cI, 256, .inl ic))] := hD
    refine lv_aload_n hx hb d_Ta_append_22 rfl (lv_at hl 0 rfl) ?_
    refine va_get (D := D) (ci := 2) (v := .ref t2) (C := R_Ta) (T := F_Ta) (N := 4) hx hb hw ku_Ta hown hK hP 0 rfl rfl 1 (by decide) (hw _ kw_0dba980b) (fun _ h9 => h9) rfl d_Ta_append_23 ?_
    refine lv_aload_n hx hb d_Ta_append_26 rfl (lv_at hl 0 rfl) ?_
    refine va_get (D := D) (ci := 2) (v := .int nt) (C := R_Ta) (T := F_Ta) (N := 4) hx hb hw ku_Ta hown hK hP 0 rfl rfl 3 (by decide) (hw _ kw_8163ed3a) (fun _ h9 => h9) rfl d_Ta_append_27 ?_
    refine lv_iload_n hx hb d_Ta_append_30 rfl (lv_at hl 2 rfl) ?_
    refine va_iast hx hb hK hP hD hS 2 0 rfl rfl (by assumption) d_Ta_append_31 (fun H locs hP hD hS => ?_)
    replace hP : va_P D sw_cl [(t, .inr (2, [.ref t1, .ref t2, .ref t3, .int nt])), (t1, .inl (cI, 256, .inl (upd ia nt.toNatClampNeg x))), (t2, .inl (cI, 256, .inl (upd ib nt.toNatClampNeg y))), (t3, .inl (cI, 256, .inl ic))] H := hP
    replace hD : va_D A [(t, .inr (2, [.ref t1, .ref t2, .ref t3, .int nt])), (t1, .inl (cI, 256, .inl (upd ia nt.toNatClampNeg x))), (t2, .inl (cI, 256, .inl (upd ib nt.toNatClampNeg y))), (t3, .inl (cI, 256, .inl ic))] := hD
    refine lv_aload_n hx hb d_Ta_append_32 rfl (lv_at hl 0 rfl) ?_
    refine va_get (D := D) (ci := 2) (v := .ref t3) (C := R_Ta) (T := F_Ta) (N := 4) hx hb hw ku_Ta hown hK hP 0 rfl rfl 2 (by decide) (hw _ kw_96c33365) (fun _ h9 => h9) rfl d_Ta_append_33 ?_
    refine lv_aload_n hx hb d_Ta_append_36 rfl (lv_at hl 0 rfl) ?_
    refine va_get (D := D) (ci := 2) (v := .int nt) (C := R_Ta) (T := F_Ta) (N := 4) hx hb hw ku_Ta hown hK hP 0 rfl rfl 3 (by decide) (hw _ kw_8163ed3a) (fun _ h9 => h9) rfl d_Ta_append_37 ?_
    refine lv_iload_n hx hb d_Ta_append_40 rfl (lv_at hl 3 rfl) ?_
    refine va_iast hx hb hK hP hD hS 3 0 rfl rfl (by assumption) d_Ta_append_41 (fun H locs hP hD hS => ?_)
    replace hP : va_P D sw_cl [(t, .inr (2, [.ref t1, .ref t2, .ref t3, .int nt])), (t1, .inl (cI, 256, .inl (upd ia nt.toNatClampNeg x))), (t2, .inl (cI, 256, .inl (upd ib nt.toNatClampNeg y))), (t3, .inl (cI, 256, .inl (upd ic nt.toNatClampNeg z)))] H := hP
    replace hD : va_D A [(t, .inr (2, [.ref t1, .ref t2, .ref t3, .int nt])), (t1, .inl (cI, 256, .inl (upd ia nt.toNatClampNeg x))), (t2, .inl (cI, 256, .inl (upd ib nt.toNatClampNeg y))), (t3, .inl (cI, 256, .inl (upd ic nt.toNatClampNeg z)))] := hD
    refine lv_aload_n hx hb d_Ta_append_42 rfl (lv_at hl 0 rfl) ?_
    refine lv_dup hx hb d_Ta_append_43 rfl ?_
    refine va_get (D := D) (ci := 2) (v := .int nt) (C := R_Ta) (T := F_Ta) (N := 4) hx hb hw ku_Ta hown hK hP 0 rfl rfl 3 (by decide) (hw _ kw_8163ed3a) (fun _ h9 => h9) rfl d_Ta_append_44 ?_
    refine lv_iconst (v := 1) hx hb d_Ta_append_47 (by decide) ?_
    refine lv_iadd hx hb d_Ta_append_48 ?_
    refine va_put (D := D) (ci := 2) (v := .int (nt + 1)) (ty := t_Ta 3) (C := R_Ta) (T := F_Ta) (N := 4) hx hb hw ku_Ta t_Ta t_Ta_ok n_Ta hown hK hP hD hS 0 rfl rfl 3 (by decide) (hw _ kw_8163ed3a) (fun _ h9 => h9) rfl (t_Ta_ok 3 (by decide)) rfl rfl (Nat.le_of_ble_eq_true rfl) d_Ta_append_49 (fun H locs hP hD hS => ?_)
    replace hP : va_P D sw_cl [(t, .inr (2, [.ref t1, .ref t2, .ref t3, .int (nt + 1)])), (t1, .inl (cI, 256, .inl (upd ia nt.toNatClampNeg x))), (t2, .inl (cI, 256, .inl (upd ib nt.toNatClampNeg y))), (t3, .inl (cI, 256, .inl (upd ic nt.toNatClampNeg z)))] H := hP
    replace hD : va_D A [(t, .inr (2, [.ref t1, .ref t2, .ref t3, .int (nt + 1)])), (t1, .inl (cI, 256, .inl (upd ia nt.toNatClampNeg x))), (t2, .inl (cI, 256, .inl (upd ib nt.toNatClampNeg y))), (t3, .inl (cI, 256, .inl (upd ic nt.toNatClampNeg z)))] := hD
    refine lv_aload_n hx hb d_Ta_append_52 rfl (lv_at hl 0 rfl) ?_
    refine va_get (D := D) (ci := 2) (v := .int (nt + 1)) (C := R_Ta) (T := F_Ta) (N := 4) hx hb hw ku_Ta hown hK hP 0 rfl rfl 3 (by decide) (hw _ kw_8163ed3a) (fun _ h9 => h9) rfl d_Ta_append_53 ?_
    have hP9 := hP.sub (ws' := [(t, .inr (2, [.ref t1, .ref t2, .ref t3, .int (nt + 1)])), (t1, .inl (cI, 256, .inl (upd ia nt.toNatClampNeg x))), (t2, .inl (cI, 256, .inl (upd ib nt.toNatClampNeg y))), (t3, .inl (cI, 256, .inl (upd ic nt.toNatClampNeg z)))]) [0, 1, 2, 3] rfl
    have hD9 := hD.sub (ws' := [(t, .inr (2, [.ref t1, .ref t2, .ref t3, .int (nt + 1)])), (t1, .inl (cI, 256, .inl (upd ia nt.toNatClampNeg x))), (t2, .inl (cI, 256, .inl (upd ib nt.toNatClampNeg y))), (t3, .inl (cI, 256, .inl (upd ic nt.toNatClampNeg z)))]) [0, 1, 2, 3] (by decide) rfl
    exact W.iret (v := nt + 1) hx hb hr (fun T9 hT9 hW9 => ⟨⟨nt + 1, (nt + 1, upd ia nt.toNatClampNeg x, upd ib nt.toNatClampNeg y, upd ic nt.toNatClampNeg z), rfl, by simp [c_7], by rw [hT9]; exact hP9, hD9⟩, hS.F hT9⟩) hS.2.2 d_Ta_append_56
  · skip
    refine lv_iconst (v := (-1)) hx hb d_Ta_append_10 (by decide) ?_
    have hP9 := hP.sub (ws' := [(t, .inr (2, [.ref t1, .ref t2, .ref t3, .int nt])), (t1, .inl (cI, 256, .inl ia)), (t2, .inl (cI, 256, .inl ib)), (t3, .inl (cI, 256, .inl ic))]) [0, 1, 2, 3] rfl
    have hD9 := hD.sub (ws' := [(t, .inr (2, [.ref t1, .ref t2, .ref t3, .int nt])), (t1, .inl (cI, 256, .inl ia)), (t2, .inl (cI, 256, .inl ib)), (t3, .inl (cI, 256, .inl ic))]) [0, 1, 2, 3] (by decide) rfl
    exact W.iret (v := (-1)) hx hb hr (fun T9 hT9 hW9 => ⟨⟨(-1), (nt, ia, ib, ic), rfl, by simp [c_7], by rw [hT9]; exact hP9, hD9⟩, hS.F hT9⟩) hS.2.2 d_Ta_append_11

abbrev rm_Ta_removeLast : Room := { frames := 0, cells := 0, slots := 0, locals := 0 }
abbrev q_Ta_removeLast (D : va_G) (cI cL : ClassId) (A : Nat → Prop) (t : Nat) (x : Int32) (t1 : Nat) (t2 : Nat) (t3 : Nat) (nt : Int32) : Array Value → State → Outcome → State → Prop := va_Qi (S := Int32) (fun (r : Int32) => fun (nt2 : Int32) => r = (sw_b (!(decide (x < 0)) && decide (x ≤ nt))) ∧ nt2 = (if (!(decide (x < 0)) && decide (x ≤ nt)) = true then nt - x else nt)) (sw_R D A (fun (nt2 : Int32) => [(t, .inr (2, [.ref t1, .ref t2, .ref t3, .int nt2]))])) A
set_option maxHeartbeats 4000000 in
set_option maxRecDepth 100000 in
theorem c_Ta_removeLast (l : Launch) (D : va_G) (cI cL : ClassId) (tq sz : Nat) (t : Nat) (x : Int32) (t1 : Nat) (t2 : Nat) (t3 : Nat) (nt : Int32) : Met l y_Ta_removeLast w_Ta_removeLast rm_Ta_removeLast (va_Pc [.ref t, .int x] (sw_B D cI cL tq sz [(t, .inr (2, [.ref t1, .ref t2, .ref t3, .int nt]))])) (q_Ta_removeLast D cI cL (va_A [(t, .inr (2, [.ref t1, .ref t2, .ref t3, .int nt]))] sz) t x t1 t2 t3 nt) 0 0 (va_A [(t, .inr (2, [.ref t1, .ref t2, .ref t3, .int nt]))] sz) := by
  refine Met.ofW (cc := b_Ta_removeLast) (maxL := 2) (ret := (some .boolean)) (by decide) rfl ?_
  intro mp me s mm args below meth mk s₁ B hml hv
  obtain ⟨rfl, hsz, hP, hK, hD0, hG⟩ := hv
  have hx := B.exec
  have hb := B.bytes
  have hr := B.returns
  have hts := atoms_spec (ws := w_Ta_removeLast) B.pre
  have hw : ∀ w ∈ sw_words, w.before _ s = true := fun w h => hts w (List.mem_cons_of_mem _ h)
  have hown : s.vm.findClass R_Ta = some mm.cls := findClass_of_methodNamed B.named
  have hlocks := B.notSynchronized
  subst hsz
  have hD := hD0.self (sz := s.heap.size)
  generalize hAe : va_A [(t, .inr (2, [.ref t1, .ref t2, .ref t3, .int nt]))] s.heap.size = A at hD hG ⊢
  have hA : ∀ q : Nat, s.heap.size ≤ q → A q := fun q h => by rw [← hAe]; exact Or.inr h
  have hS : va_S A s.heap s.heap [] := va_S.rf
  have hl := lv_entry ([.ref t, .int x]) (n := 2) (Nat.le_of_ble_eq_true rfl)
  rw [lg_entry_eq]
  generalize (lg_sl ([.ref t, .int x]) ++ List.replicate (2 - (lg_sl ([.ref t, .int x])).length) Slot.unset).toArray = ls at hl ⊢
  have hl : lv_has ls 2 [(0, .ref t), (1, .int x)] := hl
  refine lv_iload_n hx hb d_Ta_removeLast_0 rfl (lv_at hl 1 rfl) ?_
  refine lv_if_lt (tgt := 12) hx hb d_Ta_removeLast_1 (by decide) (fun c_1 => ?_) (fun c_1 => ?_)
  · skip
    refine lv_iconst (v := 0) hx hb d_Ta_removeLast_12 (by decide) ?_
    have hP9 := hP.sub (ws' := [(t, .inr (2, [.ref t1, .ref t2, .ref t3, .int nt]))]) [0] rfl
    have hD9 := hD.sub (ws' := [(t, .inr (2, [.ref t1, .ref t2, .ref t3, .int nt]))]) [0] (by decide) rfl
    exact W.zret (ty := .boolean) (v := 0) hx hb hr (rfl) (fun T9 hT9 hW9 => ⟨⟨0, nt, rfl, by simp [sw_b, c_1], by rw [hT9]; exact hP9, hD9⟩, hS.F hT9⟩) hS.2.2 d_Ta_removeLast_13
  · skip
    refine lv_iload_n hx hb d_Ta_removeLast_4 rfl (lv_at hl 1 rfl) ?_
    refine lv_aload_n hx hb d_Ta_removeLast_5 rfl (lv_at hl 0 rfl) ?_
    refine va_get (D := D) (ci := 2) (v := .int nt) (C := R_Ta) (T := F_Ta) (N := 4) hx hb hw ku_Ta hown hK hP 0 rfl rfl 3 (by decide) (hw _ kw_8163ed3a) (fun _ h9 => h9) rfl d_Ta_removeLast_6 ?_
    refine lv_icmp_le (tgt := 14) hx hb d_Ta_removeLast_9 (by decide) (fun c_9 => ?_) (fun c_9 => ?_)
    · skip
      refine lv_aload_n hx hb d_Ta_removeLast_14 rfl (lv_at hl 0 rfl) ?_
      refine lv_dup hx hb d_Ta_removeLast_15 rfl ?_
      refine va_get (D := D) (ci := 2) (v := .int nt) (C := R_Ta) (T := F_Ta) (N := 4) hx hb hw ku_Ta hown hK hP 0 rfl rfl 3 (by decide) (hw _ kw_8163ed3a) (fun _ h9 => h9) rfl d_Ta_removeLast_16 ?_
      refine lv_iload_n hx hb d_Ta_removeLast_19 rfl (lv_at hl 1 rfl) ?_
      refine lv_isub hx hb d_Ta_removeLast_20 ?_
      refine va_put (D := D) (ci := 2) (v := .int (nt - x)) (ty := t_Ta 3) (C := R_Ta) (T := F_Ta) (N := 4) hx hb hw ku_Ta t_Ta t_Ta_ok n_Ta hown hK hP hD hS 0 rfl rfl 3 (by decide) (hw _ kw_8163ed3a) (fun _ h9 => h9) rfl (t_Ta_ok 3 (by decide)) rfl rfl (Nat.le_of_ble_eq_true rfl) d_Ta_removeLast_21 (fun H locs hP hD hS => ?_)
      replace hP : va_P D sw_cl [(t, .inr (2, [.ref t1, .ref t2, .ref t3, .int (nt - x)]))] H := hP
      replace hD : va_D A [(t, .inr (2, [.ref t1, .ref t2, .ref t3, .int (nt - x)]))] := hD
      refine lv_iconst (v := 1) hx hb d_Ta_removeLast_24 (by decide) ?_
      have hP9 := hP.sub (ws' := [(t, .inr (2, [.ref t1, .ref t2, .ref t3, .int (nt - x)]))]) [0] rfl
      have hD9 := hD.sub (ws' := [(t, .inr (2, [.ref t1, .ref t2, .ref t3, .int (nt - x)]))]) [0] (by decide) rfl
      exact W.zret (ty := .boolean) (v := 1) hx hb hr (rfl) (fun T9 hT9 hW9 => ⟨⟨1, (nt - x), rfl, by simp [sw_b, c_1, c_9], by rw [hT9]; exact hP9, hD9⟩, hS.F hT9⟩) hS.2.2 d_Ta_removeLast_25
    · skip
      refine lv_iconst (v := 0) hx hb d_Ta_removeLast_12 (by decide) ?_
      have hP9 := hP.sub (ws' := [(t, .inr (2, [.ref t1, .ref t2, .ref t3, .int nt]))]) [0] rfl
      have hD9 := hD.sub (ws' := [(t, .inr (2, [.ref t1, .ref t2, .ref t3, .int nt]))]) [0] (by decide) rfl
      exact W.zret (ty := .boolean) (v := 0) hx hb hr (rfl) (fun T9 hT9 hW9 => ⟨⟨0, nt, rfl, by simp [sw_b, c_1, c_9], by rw [hT9]; exact hP9, hD9⟩, hS.F hT9⟩) hS.2.2 d_Ta_removeLast_13

abbrev rm_St_becomeCopyOf : Room := { frames := 0, cells := 0, slots := 0, locals := 0 }
abbrev q_St_becomeCopyOf (D : va_G) (cI cL : ClassId) (A : Nat → Prop) (w : Nat) (o : Nat) (wx : Int32) (wy : Int32) (wa : Int32) (ws : Int32) (ox : Int32) (oy : Int32) (oa : Int32) (os : Int32) : Array Value → State → Outcome → State → Prop := va_Qv (S := Unit) (fun (_ : Unit) => True) (sw_R D A (fun (_ : Unit) => [(w, .inr (3, [.int ox, .int oy, .int oa, .int os])), (o, .inr (3, [.int ox, .int oy, .int oa, .int os]))])) A
set_option maxHeartbeats 4000000 in
set_option maxRecDepth 100000 in
theorem c_St_becomeCopyOf (l : Launch) (D : va_G) (cI cL : ClassId) (tq sz : Nat) (w : Nat) (o : Nat) (wx : Int32) (wy : Int32) (wa : Int32) (ws : Int32) (ox : Int32) (oy : Int32) (oa : Int32) (os : Int32) : Met l y_St_becomeCopyOf w_St_becomeCopyOf rm_St_becomeCopyOf (va_Pc [.ref w, .ref o] (sw_B D cI cL tq sz [(w, .inr (3, [.int wx, .int wy, .int wa, .int ws])), (o, .inr (3, [.int ox, .int oy, .int oa, .int os]))])) (q_St_becomeCopyOf D cI cL (va_A [(w, .inr (3, [.int wx, .int wy, .int wa, .int ws])), (o, .inr (3, [.int ox, .int oy, .int oa, .int os]))] sz) w o wx wy wa ws ox oy oa os) 0 0 (va_A [(w, .inr (3, [.int wx, .int wy, .int wa, .int ws])), (o, .inr (3, [.int ox, .int oy, .int oa, .int os]))] sz) := by
  refine Met.ofW (cc := b_St_becomeCopyOf) (maxL := 2) (ret := none) (by decide) rfl ?_
  intro mp me s mm args below meth mk s₁ B hml hv
  obtain ⟨rfl, hsz, hP, hK, hD0, hG⟩ := hv
  have hx := B.exec
  have hb := B.bytes
  have hr := B.returns
  have hts := atoms_spec (ws := w_St_becomeCopyOf) B.pre
  have hw : ∀ w ∈ sw_words, w.before _ s = true := fun w h => hts w (List.mem_cons_of_mem _ h)
  have hown : s.vm.findClass R_St = some mm.cls := findClass_of_methodNamed B.named
  have hlocks := B.notSynchronized
  subst hsz
  have hD := hD0.self (sz := s.heap.size)
  generalize hAe : va_A [(w, .inr (3, [.int wx, .int wy, .int wa, .int ws])), (o, .inr (3, [.int ox, .int oy, .int oa, .int os]))] s.heap.size = A at hD hG ⊢
  have hA : ∀ q : Nat, s.heap.size ≤ q → A q := fun q h => by rw [← hAe]; exact Or.inr h
  have hS : va_S A s.heap s.heap [] := va_S.rf
  have hl := lv_entry ([.ref w, .ref o]) (n := 2) (Nat.le_of_ble_eq_true rfl)
  rw [lg_entry_eq]
  generalize (lg_sl ([.ref w, .ref o]) ++ List.replicate (2 - (lg_sl ([.ref w, .ref o])).length) Slot.unset).toArray = ls at hl ⊢
  have hl : lv_has ls 2 [(0, .ref w), (1, .ref o)] := hl
  refine lv_aload_n hx hb d_St_becomeCopyOf_0 rfl (lv_at hl 0 rfl) ?_
  refine lv_aload_n hx hb d_St_becomeCopyOf_1 rfl (lv_at hl 1 rfl) ?_
  refine va_get (D := D) (ci := 3) (v := .int ox) (C := R_St) (T := F_St) (N := 4) hx hb hw ku_St hown hK hP 1 rfl rfl 0 (by decide) (hw _ kw_a3309d6b) (fun _ h9 => h9) rfl d_St_becomeCopyOf_2 ?_
  refine va_put (D := D) (ci := 3) (v := .int ox) (ty := t_St 0) (C := R_St) (T := F_St) (N := 4) hx hb hw ku_St t_St t_St_ok n_St hown hK hP hD hS 0 rfl rfl 0 (by decide) (hw _ kw_a3309d6b) (fun _ h9 => h9) rfl (t_St_ok 0 (by decide)) rfl rfl (Nat.le_of_ble_eq_true rfl) d_St_becomeCopyOf_5 (fun H locs hP hD hS => ?_)
  replace hP : va_P D sw_cl [(w, .inr (3, [.int ox, .int wy, .int wa, .int ws])), (o, .inr (3, [.int ox, .int oy, .int oa, .int os]))] H := hP
  replace hD : va_D A [(w, .inr (3, [.int ox, .int wy, .int wa, .int ws])), (o, .inr (3, [.int ox, .int oy, .int oa, .int os]))] := hD
  refine lv_aload_n hx hb d_St_becomeCopyOf_8 rfl (lv_at hl 0 rfl) ?_
  refine lv_aload_n hx hb d_St_becomeCopyOf_9 rfl (lv_at hl 1 rfl) ?_
  refine va_get (D := D) (ci := 3) (v := .int oy) (C := R_St) (T := F_St) (N := 4) hx hb hw ku_St hown hK hP 1 rfl rfl 1 (by decide) (hw _ kw_ea0b02d1) (fun _ h9 => h9) rfl d_St_becomeCopyOf_10 ?_
  refine va_put (D := D) (ci := 3) (v := .int oy) (ty := t_St 1) (C := R_St) (T := F_St) (N := 4) hx hb hw ku_St t_St t_St_ok n_St hown hK hP hD hS 0 rfl rfl 1 (by decide) (hw _ kw_ea0b02d1) (fun _ h9 => h9) rfl (t_St_ok 1 (by decide)) rfl rfl (Nat.le_of_ble_eq_true rfl) d_St_becomeCopyOf_13 (fun H locs hP hD hS => ?_)
  replace hP : va_P D sw_cl [(w, .inr (3, [.int ox, .int oy, .int wa, .int ws])), (o, .inr (3, [.int ox, .int oy, .int oa, .int os]))] H := hP
  replace hD : va_D A [(w, .inr (3, [.int ox, .int oy, .int wa, .int ws])), (o, .inr (3, [.int ox, .int oy, .int oa, .int os]))] := hD
  refine lv_aload_n hx hb d_St_becomeCopyOf_16 rfl (lv_at hl 0 rfl) ?_
  refine lv_aload_n hx hb d_St_becomeCopyOf_17 rfl (lv_at hl 1 rfl) ?_
  refine va_get (D := D) (ci := 3) (v := .int oa) (C := R_St) (T := F_St) (N := 4) hx hb hw ku_St hown hK hP 1 rfl rfl 2 (by decide) (hw _ kw_bbaea129) (fun _ h9 => h9) rfl d_St_becomeCopyOf_18 ?_
  refine va_put (D := D) (ci := 3) (v := .int oa) (ty := t_St 2) (C := R_St) (T := F_St) (N := 4) hx hb hw ku_St t_St t_St_ok n_St hown hK hP hD hS 0 rfl rfl 2 (by decide) (hw _ kw_bbaea129) (fun _ h9 => h9) rfl (t_St_ok 2 (by decide)) rfl rfl (Nat.le_of_ble_eq_true rfl) d_St_becomeCopyOf_21 (fun H locs hP hD hS => ?_)
  replace hP : va_P D sw_cl [(w, .inr (3, [.int ox, .int oy, .int oa, .int ws])), (o, .inr (3, [.int ox, .int oy, .int oa, .int os]))] H := hP
  replace hD : va_D A [(w, .inr (3, [.int ox, .int oy, .int oa, .int ws])), (o, .inr (3, [.int ox, .int oy, .int oa, .int os]))] := hD
  refine lv_aload_n hx hb d_St_becomeCopyOf_24 rfl (lv_at hl 0 rfl) ?_
  refine lv_aload_n hx hb d_St_becomeCopyOf_25 rfl (lv_at hl 1 rfl) ?_
  refine va_get (D := D) (ci := 3) (v := .int os) (C := R_St) (T := F_St) (N := 4) hx hb hw ku_St hown hK hP 1 rfl rfl 3 (by decide) (hw _ kw_ef274c34) (fun _ h9 => h9) rfl d_St_becomeCopyOf_26 ?_
  refine va_put (D := D) (ci := 3) (v := .int os) (ty := t_St 3) (C := R_St) (T := F_St) (N := 4) hx hb hw ku_St t_St t_St_ok n_St hown hK hP hD hS 0 rfl rfl 3 (by decide) (hw _ kw_ef274c34) (fun _ h9 => h9) rfl (t_St_ok 3 (by decide)) rfl rfl (Nat.le_of_ble_eq_true rfl) d_St_becomeCopyOf_29 (fun H locs hP hD hS => ?_)
  replace hP : va_P D sw_cl [(w, .inr (3, [.int ox, .int oy, .int oa, .int os])), (o, .inr (3, [.int ox, .int oy, .int oa, .int os]))] H := hP
  replace hD : va_D A [(w, .inr (3, [.int ox, .int oy, .int oa, .int os])), (o, .inr (3, [.int ox, .int oy, .int oa, .int os]))] := hD
  have hP9 := hP.sub (ws' := [(w, .inr (3, [.int ox, .int oy, .int oa, .int os])), (o, .inr (3, [.int ox, .int oy, .int oa, .int os]))]) [0, 1] rfl
  have hD9 := hD.sub (ws' := [(w, .inr (3, [.int ox, .int oy, .int oa, .int os])), (o, .inr (3, [.int ox, .int oy, .int oa, .int os]))]) [0, 1] (by decide) rfl
  exact W.vret hx hb hr (fun T9 hT9 hW9 => ⟨⟨(), rfl, by first | trivial | (simp []), by rw [hT9]; exact hP9, hD9⟩, hS.F hT9⟩) hS.2.2 d_St_becomeCopyOf_32

abbrev rm_Cr_forget : Room := { frames := 0, cells := 0, slots := 0, locals := 0 }
abbrev q_Cr_forget (D : va_G) (cI cL : ClassId) (A : Nat → Prop) (k : Nat) (k1 : Nat) (k2 : Nat) (k3 : Nat) (nk : Int32) (fs : Int32) : Array Value → State → Outcome → State → Prop := va_Qv (S := Unit) (fun (_ : Unit) => True) (sw_R D A (fun (_ : Unit) => [(k, .inr (4, [.ref k1, .ref k2, .ref k3, .int 0, .int (-1)]))])) A
set_option maxHeartbeats 4000000 in
set_option maxRecDepth 100000 in
theorem c_Cr_forget (l : Launch) (D : va_G) (cI cL : ClassId) (tq sz : Nat) (k : Nat) (k1 : Nat) (k2 : Nat) (k3 : Nat) (nk : Int32) (fs : Int32) : Met l y_Cr_forget w_Cr_forget rm_Cr_forget (va_Pc [.ref k] (sw_B D cI cL tq sz [(k, .inr (4, [.ref k1, .ref k2, .ref k3, .int nk, .int fs]))])) (q_Cr_forget D cI cL (va_A [(k, .inr (4, [.ref k1, .ref k2, .ref k3, .int nk, .int fs]))] sz) k k1 k2 k3 nk fs) 0 0 (va_A [(k, .inr (4, [.ref k1, .ref k2, .ref k3, .int nk, .int fs]))] sz) := by
  refine Met.ofW (cc := b_Cr_forget) (maxL := 1) (ret := none) (by decide) rfl ?_
  intro mp me s mm args below meth mk s₁ B hml hv
  obtain ⟨rfl, hsz, hP, hK, hD0, hG⟩ := hv
  have hx := B.exec
  have hb := B.bytes
  have hr := B.returns
  have hts := atoms_spec (ws := w_Cr_forget) B.pre
  have hw : ∀ w ∈ sw_words, w.before _ s = true := fun w h => hts w (List.mem_cons_of_mem _ h)
  have hown : s.vm.findClass R_Cr = some mm.cls := findClass_of_methodNamed B.named
  have hlocks := B.notSynchronized
  subst hsz
  have hD := hD0.self (sz := s.heap.size)
  generalize hAe : va_A [(k, .inr (4, [.ref k1, .ref k2, .ref k3, .int nk, .int fs]))] s.heap.size = A at hD hG ⊢
  have hA : ∀ q : Nat, s.heap.size ≤ q → A q := fun q h => by rw [← hAe]; exact Or.inr h
  have hS : va_S A s.heap s.heap [] := va_S.rf
  have hl := lv_entry ([.ref k]) (n := 1) (Nat.le_of_ble_eq_true rfl)
  rw [lg_entry_eq]
  generalize (lg_sl ([.ref k]) ++ List.replicate (1 - (lg_sl ([.ref k])).length) Slot.unset).toArray = ls at hl ⊢
  have hl : lv_has ls 1 [(0, .ref k)] := hl
  refine lv_aload_n hx hb d_Cr_forget_0 rfl (lv_at hl 0 rfl) ?_
  refine lv_iconst (v := 0) hx hb d_Cr_forget_1 (by decide) ?_
  refine va_put (D := D) (ci := 4) (v := .int 0) (ty := t_Cr 3) (C := R_Cr) (T := F_Cr) (N := 5) hx hb hw ku_Cr t_Cr t_Cr_ok n_Cr hown hK hP hD hS 0 rfl rfl 3 (by decide) (hw _ kw_7f5cc8e8) (fun _ h9 => h9) rfl (t_Cr_ok 3 (by decide)) rfl rfl (Nat.le_of_ble_eq_true rfl) d_Cr_forget_2 (fun H locs hP hD hS => ?_)
  replace hP : va_P D sw_cl [(k, .inr (4, [.ref k1, .ref k2, .ref k3, .int 0, .int fs]))] H := hP
  replace hD : va_D A [(k, .inr (4, [.ref k1, .ref k2, .ref k3, .int 0, .int fs]))] := hD
  refine lv_aload_n hx hb d_Cr_forget_5 rfl (lv_at hl 0 rfl) ?_
  refine lv_iconst (v := (-1)) hx hb d_Cr_forget_6 (by decide) ?_
  refine va_put (D := D) (ci := 4) (v := .int (-1)) (ty := t_Cr 4) (C := R_Cr) (T := F_Cr) (N := 5) hx hb hw ku_Cr t_Cr t_Cr_ok n_Cr hown hK hP hD hS 0 rfl rfl 4 (by decide) (hw _ kw_767774d4) (fun _ h9 => h9) rfl (t_Cr_ok 4 (by decide)) rfl rfl (Nat.le_of_ble_eq_true rfl) d_Cr_forget_7 (fun H locs hP hD hS => ?_)
  replace hP : va_P D sw_cl [(k, .inr (4, [.ref k1, .ref k2, .ref k3, .int 0, .int (-1)]))] H := hP
  replace hD : va_D A [(k, .inr (4, [.ref k1, .ref k2, .ref k3, .int 0, .int (-1)]))] := hD
  have hP9 := hP.sub (ws' := [(k, .inr (4, [.ref k1, .ref k2, .ref k3, .int 0, .int (-1)]))]) [0] rfl
  have hD9 := hD.sub (ws' := [(k, .inr (4, [.ref k1, .ref k2, .ref k3, .int 0, .int (-1)]))]) [0] (by decide) rfl
  exact W.vret hx hb hr (fun T9 hT9 hW9 => ⟨⟨(), rfl, by first | trivial | (simp []), by rw [hT9]; exact hP9, hD9⟩, hS.F hT9⟩) hS.2.2 d_Cr_forget_10
end
section
abbrev rm_Pl_side : Room := { frames := 1, cells := 0, slots := 0, locals := 23 }
abbrev q_Pl_side (D : va_G) (cI cL : ClassId) (A : Nat → Prop) (p : Nat) (x : Int32) (y : Int32) (z : Int32) (pX : Nat) (pY : Nat) (pF : Nat) (pC : Nat) (pA : Nat) (pB : Nat) (pR : Nat) (pK : Nat) (nv : Int32) (ns : Int32) (nw : Int32) (vx : Nat → Int32) (vy : Nat → Int32) : Array Value → State → Outcome → State → Prop := va_Qi (S := Unit) (fun (r : Int32) => fun (_ : Unit) => r = sw_side vx vy x.toNatClampNeg y.toNatClampNeg z.toNatClampNeg) (sw_R D A (fun (_ : Unit) => [(p, .inr (1, [.ref pX, .ref pY, .ref pF, .ref pC, .ref pA, .ref pB, .ref pR, .ref pK, .int nv, .int ns, .int nw])), (pX, .inl (cI, 64, .inl vx)), (pY, .inl (cI, 64, .inl vy))])) A
set_option maxHeartbeats 4000000 in
set_option maxRecDepth 100000 in
theorem c_Pl_side (l : Launch) (D : va_G) (cI cL : ClassId) (tq sz : Nat) (p : Nat) (x : Int32) (y : Int32) (z : Int32) (pX : Nat) (pY : Nat) (pF : Nat) (pC : Nat) (pA : Nat) (pB : Nat) (pR : Nat) (pK : Nat) (nv : Int32) (ns : Int32) (nw : Int32) (vx : Nat → Int32) (vy : Nat → Int32) (ix : vp_in x 64) (iy : vp_in y 64) (iz : vp_in z 64) : Met l y_Pl_side w_Pl_side rm_Pl_side (va_Pc [.ref p, .int x, .int y, .int z] (sw_B D cI cL tq sz [(p, .inr (1, [.ref pX, .ref pY, .ref pF, .ref pC, .ref pA, .ref pB, .ref pR, .ref pK, .int nv, .int ns, .int nw])), (pX, .inl (cI, 64, .inl vx)), (pY, .inl (cI, 64, .inl vy))])) (q_Pl_side D cI cL (va_A [(p, .inr (1, [.ref pX, .ref pY, .ref pF, .ref pC, .ref pA, .ref pB, .ref pR, .ref pK, .int nv, .int ns, .int nw])), (pX, .inl (cI, 64, .inl vx)), (pY, .inl (cI, 64, .inl vy))] sz) p x y z pX pY pF pC pA pB pR pK nv ns nw vx vy) 0 0 (va_A [(p, .inr (1, [.ref pX, .ref pY, .ref pF, .ref pC, .ref pA, .ref pB, .ref pR, .ref pK, .int nv, .int ns, .int nw])), (pX, .inl (cI, 64, .inl vx)), (pY, .inl (cI, 64, .inl vy))] sz) := by
  refine Met.ofW (cc := b_Pl_side) (maxL := 4) (ret := (some .int)) (by decide) rfl ?_
  intro mp me s mm args below meth mk s₁ B hml hv
  obtain ⟨rfl, hsz, hP, hK, hD0, hG⟩ := hv
  have hx := B.exec
  have hb := B.bytes
  have hr := B.returns
  have hts := atoms_spec (ws := w_Pl_side) B.pre
  have hw : ∀ w ∈ sw_words, w.before _ s = true := fun w h => hts w (List.mem_cons_of_mem _ h)
  have hown : s.vm.findClass R_Pl = some mm.cls := findClass_of_methodNamed B.named
  have hlocks := B.notSynchronized
  subst hsz
  have hD := hD0.self (sz := s.heap.size)
  generalize hAe : va_A [(p, .inr (1, [.ref pX, .ref pY, .ref pF, .ref pC, .ref pA, .ref pB, .ref pR, .ref pK, .int nv, .int ns, .int nw])), (pX, .inl (cI, 64, .inl vx)), (pY, .inl (cI, 64, .inl vy))] s.heap.size = A at hD hG ⊢
  have hA : ∀ q : Nat, s.heap.size ≤ q → A q := fun q h => by rw [← hAe]; exact Or.inr h
  have hS : va_S A s.heap s.heap [] := va_S.rf
  have hl := lv_entry ([.ref p, .int x, .int y, .int z]) (n := 4) (Nat.le_of_ble_eq_true rfl)
  rw [lg_entry_eq]
  generalize (lg_sl ([.ref p, .int x, .int y, .int z]) ++ List.replicate (4 - (lg_sl ([.ref p, .int x, .int y, .int z])).length) Slot.unset).toArray = ls at hl ⊢
  have hl : lv_has ls 4 [(0, .ref p), (1, .int x), (2, .int y), (3, .int z)] := hl
  refine lv_aload_n hx hb d_Pl_side_0 rfl (lv_at hl 0 rfl) ?_
  refine va_get (D := D) (ci := 1) (v := .ref pX) (C := R_Pl) (T := F_Pl) (N := 11) hx hb hw ku_Pl hown hK hP 0 rfl rfl 0 (by decide) (hw _ kw_8234c2ed) (fun _ h9 => h9) rfl d_Pl_side_1 ?_
  refine lv_iload_n hx hb d_Pl_side_4 rfl (lv_at hl 2 rfl) ?_
  refine va_iald hx hb hK hP 1 0 rfl rfl (by assumption) d_Pl_side_5 ?_
  refine lv_aload_n hx hb d_Pl_side_6 rfl (lv_at hl 0 rfl) ?_
  refine va_get (D := D) (ci := 1) (v := .ref pX) (C := R_Pl) (T := F_Pl) (N := 11) hx hb hw ku_Pl hown hK hP 0 rfl rfl 0 (by decide) (hw _ kw_8234c2ed) (fun _ h9 => h9) rfl d_Pl_side_7 ?_
  refine lv_iload_n hx hb d_Pl_side_10 rfl (lv_at hl 1 rfl) ?_
  refine va_iald hx hb hK hP 1 0 rfl rfl (by assumption) d_Pl_side_11 ?_
  refine lv_isub hx hb d_Pl_side_12 ?_
  refine lv_aload_n hx hb d_Pl_side_13 rfl (lv_at hl 0 rfl) ?_
  refine va_get (D := D) (ci := 1) (v := .ref pY) (C := R_Pl) (T := F_Pl) (N := 11) hx hb hw ku_Pl hown hK hP 0 rfl rfl 1 (by decide) (hw _ kw_c8115e4c) (fun _ h9 => h9) rfl d_Pl_side_14 ?_
  refine lv_iload_n hx hb d_Pl_side_17 rfl (lv_at hl 2 rfl) ?_
  refine va_iald hx hb hK hP 2 0 rfl rfl (by assumption) d_Pl_side_18 ?_
  refine lv_aload_n hx hb d_Pl_side_19 rfl (lv_at hl 0 rfl) ?_
  refine va_get (D := D) (ci := 1) (v := .ref pY) (C := R_Pl) (T := F_Pl) (N := 11) hx hb hw ku_Pl hown hK hP 0 rfl rfl 1 (by decide) (hw _ kw_c8115e4c) (fun _ h9 => h9) rfl d_Pl_side_20 ?_
  refine lv_iload_n hx hb d_Pl_side_23 rfl (lv_at hl 1 rfl) ?_
  refine va_iald hx hb hK hP 2 0 rfl rfl (by assumption) d_Pl_side_24 ?_
  refine lv_isub hx hb d_Pl_side_25 ?_
  refine lv_aload_n hx hb d_Pl_side_26 rfl (lv_at hl 0 rfl) ?_
  refine va_get (D := D) (ci := 1) (v := .ref pX) (C := R_Pl) (T := F_Pl) (N := 11) hx hb hw ku_Pl hown hK hP 0 rfl rfl 0 (by decide) (hw _ kw_8234c2ed) (fun _ h9 => h9) rfl d_Pl_side_27 ?_
  refine lv_iload_n hx hb d_Pl_side_30 rfl (lv_at hl 3 rfl) ?_
  refine va_iald hx hb hK hP 1 0 rfl rfl (by assumption) d_Pl_side_31 ?_
  refine lv_aload_n hx hb d_Pl_side_32 rfl (lv_at hl 0 rfl) ?_
  refine va_get (D := D) (ci := 1) (v := .ref pX) (C := R_Pl) (T := F_Pl) (N := 11) hx hb hw ku_Pl hown hK hP 0 rfl rfl 0 (by decide) (hw _ kw_8234c2ed) (fun _ h9 => h9) rfl d_Pl_side_33 ?_
  refine lv_iload_n hx hb d_Pl_side_36 rfl (lv_at hl 1 rfl) ?_
  refine va_iald hx hb hK hP 1 0 rfl rfl (by assumption) d_Pl_side_37 ?_
  refine lv_isub hx hb d_Pl_side_38 ?_
  refine lv_aload_n hx hb d_Pl_side_39 rfl (lv_at hl 0 rfl) ?_
  refine va_get (D := D) (ci := 1) (v := .ref pY) (C := R_Pl) (T := F_Pl) (N := 11) hx hb hw ku_Pl hown hK hP 0 rfl rfl 1 (by decide) (hw _ kw_c8115e4c) (fun _ h9 => h9) rfl d_Pl_side_40 ?_
  refine lv_iload_n hx hb d_Pl_side_43 rfl (lv_at hl 3 rfl) ?_
  refine va_iald hx hb hK hP 2 0 rfl rfl (by assumption) d_Pl_side_44 ?_
  refine lv_aload_n hx hb d_Pl_side_45 rfl (lv_at hl 0 rfl) ?_
  refine va_get (D := D) (ci := 1) (v := .ref pY) (C := R_Pl) (T := F_Pl) (N := 11) hx hb hw ku_Pl hown hK hP 0 rfl rfl 1 (by decide) (hw _ kw_c8115e4c) (fun _ h9 => h9) rfl d_Pl_side_46 ?_
  refine lv_iload_n hx hb d_Pl_side_49 rfl (lv_at hl 1 rfl) ?_
  refine va_iald hx hb hK hP 2 0 rfl rfl (by assumption) d_Pl_side_50 ?_
  refine lv_isub hx hb d_Pl_side_51 ?_
  refine sw_ki0 (wr := [(p, .inr (1, [.ref pX, .ref pY, .ref pF, .ref pC, .ref pA, .ref pB, .ref pR, .ref pK, .int nv, .int ns, .int nw])), (pX, .inl (cI, 64, .inl vx)), (pY, .inl (cI, 64, .inl vy))]) (va_runSN (host := "SectorWalk") (As := [.int ((vx y.toNatClampNeg) - (vx x.toNatClampNeg)), .int ((vy y.toNatClampNeg) - (vy x.toNatClampNeg)), .int ((vx z.toNatClampNeg) - (vx x.toNatClampNeg)), .int ((vy z.toNatClampNeg) - (vy x.toNatClampNeg))]) (rest := []) ⟨hx, hb, hml, hown, hw⟩ (c_SW_cross l D cI cL tq _ ((vx y.toNatClampNeg) - (vx x.toNatClampNeg)) ((vy y.toNatClampNeg) - (vy x.toNatClampNeg)) ((vx z.toNatClampNeg) - (vx x.toNatClampNeg)) ((vy z.toNatClampNeg) - (vy x.toNatClampNeg))) ⟨va_cnB 4 hw (sw_gN kc_SW_cross) rfl rfl rfl (hG.nest (by decide +kernel)) (hw _ kw_7ea4a733) yd_SW_cross ⟨Nat.le_of_ble_eq_true rfl, Nat.le_of_ble_eq_true rfl⟩, hw _ kw_b1bc16be, trivial⟩ (sw_preS hK hP hD hS hA hG [] rfl (by decide)) rfl rfl hl.1 rfl (lv_room (Nat.le_of_ble_eq_true rfl)) d_Pl_side_52 ⟨Nat.le_of_ble_eq_true rfl, Nat.le_of_ble_eq_true rfl⟩) hP hD hS hA [] [0, 1, 2] rfl rfl (by decide) (by decide) (fun r_52 _ H locs hp_52 hP hD hS => ?_)
  replace hP : va_P D sw_cl [(p, .inr (1, [.ref pX, .ref pY, .ref pF, .ref pC, .ref pA, .ref pB, .ref pR, .ref pK, .int nv, .int ns, .int nw])), (pX, .inl (cI, 64, .inl vx)), (pY, .inl (cI, 64, .inl vy))] H := hP
  replace hD : va_D A [(p, .inr (1, [.ref pX, .ref pY, .ref pF, .ref pC, .ref pA, .ref pB, .ref pR, .ref pK, .int nv, .int ns, .int nw])), (pX, .inl (cI, 64, .inl vx)), (pY, .inl (cI, 64, .inl vy))] := hD
  try dsimp only at hp_52
  subst hp_52
  have hP9 := hP.sub (ws' := [(p, .inr (1, [.ref pX, .ref pY, .ref pF, .ref pC, .ref pA, .ref pB, .ref pR, .ref pK, .int nv, .int ns, .int nw])), (pX, .inl (cI, 64, .inl vx)), (pY, .inl (cI, 64, .inl vy))]) [0, 1, 2] rfl
  have hD9 := hD.sub (ws' := [(p, .inr (1, [.ref pX, .ref pY, .ref pF, .ref pC, .ref pA, .ref pB, .ref pR, .ref pK, .int nv, .int ns, .int nw])), (pX, .inl (cI, 64, .inl vx)), (pY, .inl (cI, 64, .inl vy))]) [0, 1, 2] (by decide) rfl
  exact W.iret (v := ((vx y.toNatClampNeg) - (vx x.toNatClampNeg)) * ((vy z.toNatClampNeg) - (vy x.toNatClampNeg)) - ((vy y.toNatClampNeg) - (vy x.toNatClampNeg)) * ((vx z.toNatClampNeg) - (vx x.toNatClampNeg))) hx hb hr (fun T9 hT9 hW9 => ⟨⟨((vx y.toNatClampNeg) - (vx x.toNatClampNeg)) * ((vy z.toNatClampNeg) - (vy x.toNatClampNeg)) - ((vy y.toNatClampNeg) - (vy x.toNatClampNeg)) * ((vx z.toNatClampNeg) - (vx x.toNatClampNeg)), (), rfl, by rfl, by rw [hT9]; exact hP9, hD9⟩, hS.F hT9⟩) hS.2.2 d_Pl_side_55

abbrev rm_Pl_straddles : Room := { frames := 2, cells := 0, slots := 0, locals := 46 }
abbrev q_Pl_straddles (D : va_G) (cI cL : ClassId) (A : Nat → Prop) (p : Nat) (x : Int32) (y : Int32) (z : Int32) (v : Int32) (pX : Nat) (pY : Nat) (pF : Nat) (pC : Nat) (pA : Nat) (pB : Nat) (pR : Nat) (pK : Nat) (nv : Int32) (ns : Int32) (nw : Int32) (vx : Nat → Int32) (vy : Nat → Int32) : Array Value → State → Outcome → State → Prop := va_Qi (S := Unit) (fun (r : Int32) => fun (_ : Unit) => r = sw_b (sw_str (sw_side vx vy x.toNatClampNeg y.toNatClampNeg z.toNatClampNeg) (sw_side vx vy x.toNatClampNeg y.toNatClampNeg v.toNatClampNeg))) (sw_R D A (fun (_ : Unit) => [(p, .inr (1, [.ref pX, .ref pY, .ref pF, .ref pC, .ref pA, .ref pB, .ref pR, .ref pK, .int nv, .int ns, .int nw])), (pX, .inl (cI, 64, .inl vx)), (pY, .inl (cI, 64, .inl vy))])) A
set_option maxHeartbeats 4000000 in
set_option maxRecDepth 100000 in
theorem c_Pl_straddles (l : Launch) (D : va_G) (cI cL : ClassId) (tq sz : Nat) (p : Nat) (x : Int32) (y : Int32) (z : Int32) (v : Int32) (pX : Nat) (pY : Nat) (pF : Nat) (pC : Nat) (pA : Nat) (pB : Nat) (pR : Nat) (pK : Nat) (nv : Int32) (ns : Int32) (nw : Int32) (vx : Nat → Int32) (vy : Nat → Int32) (ix : vp_in x 64) (iy : vp_in y 64) (iz : vp_in z 64) (iv : vp_in v 64) : Met l y_Pl_straddles w_Pl_straddles rm_Pl_straddles (va_Pc [.ref p, .int x, .int y, .int z, .int v] (sw_B D cI cL tq sz [(p, .inr (1, [.ref pX, .ref pY, .ref pF, .ref pC, .ref pA, .ref pB, .ref pR, .ref pK, .int nv, .int ns, .int nw])), (pX, .inl (cI, 64, .inl vx)), (pY, .inl (cI, 64, .inl vy))])) (q_Pl_straddles D cI cL (va_A [(p, .inr (1, [.ref pX, .ref pY, .ref pF, .ref pC, .ref pA, .ref pB, .ref pR, .ref pK, .int nv, .int ns, .int nw])), (pX, .inl (cI, 64, .inl vx)), (pY, .inl (cI, 64, .inl vy))] sz) p x y z v pX pY pF pC pA pB pR pK nv ns nw vx vy) 0 0 (va_A [(p, .inr (1, [.ref pX, .ref pY, .ref pF, .ref pC, .ref pA, .ref pB, .ref pR, .ref pK, .int nv, .int ns, .int nw])), (pX, .inl (cI, 64, .inl vx)), (pY, .inl (cI, 64, .inl vy))] sz) := by
  refine Met.ofW (cc := b_Pl_straddles) (maxL := 7) (ret := (some .boolean)) (by decide) rfl ?_
  intro mp me s mm args below meth mk s₁ B hml hv
  obtain ⟨rfl, hsz, hP, hK, hD0, hG⟩ := hv
  have hx := B.exec
  have hb := B.bytes
  have hr := B.returns
  have hts := atoms_spec (ws := w_Pl_straddles) B.pre
  have hw : ∀ w ∈ sw_words, w.before _ s = true := fun w h => hts w (List.mem_cons_of_mem _ h)
  have hown : s.vm.findClass R_Pl = some mm.cls := findClass_of_methodNamed B.named
  have hlocks := B.notSynchronized
  subst hsz
  have hD := hD0.self (sz := s.heap.size)
  generalize hAe : va_A [(p, .inr (1, [.ref pX, .ref pY, .ref pF, .ref pC, .ref pA, .ref pB, .ref pR, .ref pK, .int nv, .int ns, .int nw])), (pX, .inl (cI, 64, .inl vx)), (pY, .inl (cI, 64, .inl vy))] s.heap.size = A at hD hG ⊢
  have hA : ∀ q : Nat, s.heap.size ≤ q → A q := fun q h => by rw [← hAe]; exact Or.inr h
  have hS : va_S A s.heap s.heap [] := va_S.rf
  have hl := lv_entry ([.ref p, .int x, .int y, .int z, .int v]) (n := 7) (Nat.le_of_ble_eq_true rfl)
  rw [lg_entry_eq]
  generalize (lg_sl ([.ref p, .int x, .int y, .int z, .int v]) ++ List.replicate (7 - (lg_sl ([.ref p, .int x, .int y, .int z, .int v])).length) Slot.unset).toArray = ls at hl ⊢
  have hl : lv_has ls 7 [(0, .ref p), (1, .int x), (2, .int y), (3, .int z), (4, .int v)] := hl
  refine lv_aload_n hx hb d_Pl_straddles_0 rfl (lv_at hl 0 rfl) ?_
  refine lv_iload_n hx hb d_Pl_straddles_1 rfl (lv_at hl 1 rfl) ?_
  refine lv_iload_n hx hb d_Pl_straddles_2 rfl (lv_at hl 2 rfl) ?_
  refine lv_iload_n hx hb d_Pl_straddles_3 rfl (lv_at hl 3 rfl) ?_
  refine sw_ki0 (wr := []) (va_runV (As := [.int x, .int y, .int z]) (rest := []) ⟨hx, hb, hml, hown, hw⟩ (c_Pl_side l D cI cL tq _ p x y z pX pY pF pC pA pB pR pK nv ns nw vx vy (by assumption) (by assumption) (by assumption)) (cwV 3 hw (sw_gV kw_9cbdf2ed kw_98fa46ae kw_6ad6a552 kw_e4821dd4 kc_Pl_side) rfl rfl rfl ⟨rfl, yd_Pl_side⟩ ⟨Nat.le_of_ble_eq_true rfl, Nat.le_of_ble_eq_true rfl⟩) (sw_preV hK hP hD hS hA hG [0, 1, 2] rfl (by decide) 1 0 rfl rfl) rfl rfl hl.1 rfl (lv_room (Nat.le_of_ble_eq_true rfl)) d_Pl_straddles_4 ⟨Nat.le_of_ble_eq_true rfl, Nat.le_of_ble_eq_true rfl⟩) hP hD hS hA [0, 1, 2] [] rfl rfl (by decide) (by decide) (fun r_4 _ H locs hp_4 hP hD hS => ?_)
  replace hP : va_P D sw_cl [(p, .inr (1, [.ref pX, .ref pY, .ref pF, .ref pC, .ref pA, .ref pB, .ref pR, .ref pK, .int nv, .int ns, .int nw])), (pX, .inl (cI, 64, .inl vx)), (pY, .inl (cI, 64, .inl vy))] H := hP
  replace hD : va_D A [(p, .inr (1, [.ref pX, .ref pY, .ref pF, .ref pC, .ref pA, .ref pB, .ref pR, .ref pK, .int nv, .int ns, .int nw])), (pX, .inl (cI, 64, .inl vx)), (pY, .inl (cI, 64, .inl vy))] := hD
  try dsimp only at hp_4
  subst hp_4
  refine lv_istore (lv' := [(5, .int (sw_side vx vy x.toNatClampNeg y.toNatClampNeg z.toNatClampNeg)), (0, .ref p), (1, .int x), (2, .int y), (3, .int z), (4, .int v)]) hx hb d_Pl_straddles_7 hl (by decide) rfl (fun ls hl => ?_)
  refine lv_aload_n hx hb d_Pl_straddles_9 rfl (lv_at hl 1 rfl) ?_
  refine lv_iload_n hx hb d_Pl_straddles_10 rfl (lv_at hl 2 rfl) ?_
  refine lv_iload_n hx hb d_Pl_straddles_11 rfl (lv_at hl 3 rfl) ?_
  refine lv_iload hx hb d_Pl_straddles_12 (lv_at hl 5 rfl) ?_
  refine sw_ki0 (wr := []) (va_runV (As := [.int x, .int y, .int v]) (rest := []) ⟨hx, hb, hml, hown, hw⟩ (c_Pl_side l D cI cL tq _ p x y v pX pY pF pC pA pB pR pK nv ns nw vx vy (by assumption) (by assumption) (by assumption)) (cwV 3 hw (sw_gV kw_9cbdf2ed kw_98fa46ae kw_6ad6a552 kw_e4821dd4 kc_Pl_side) rfl rfl rfl ⟨rfl, yd_Pl_side⟩ ⟨Nat.le_of_ble_eq_true rfl, Nat.le_of_ble_eq_true rfl⟩) (sw_preV hK hP hD hS hA hG [0, 1, 2] rfl (by decide) 1 0 rfl rfl) rfl rfl hl.1 rfl (lv_room (Nat.le_of_ble_eq_true rfl)) d_Pl_straddles_14 ⟨Nat.le_of_ble_eq_true rfl, Nat.le_of_ble_eq_true rfl⟩) hP hD hS hA [0, 1, 2] [] rfl rfl (by decide) (by decide) (fun r_14 _ H locs hp_14 hP hD hS => ?_)
  replace hP : va_P D sw_cl [(p, .inr (1, [.ref pX, .ref pY, .ref pF, .ref pC, .ref pA, .ref pB, .ref pR, .ref pK, .int nv, .int ns, .int nw])), (pX, .inl (cI, 64, .inl vx)), (pY, .inl (cI, 64, .inl vy))] H := hP
  replace hD : va_D A [(p, .inr (1, [.ref pX, .ref pY, .ref pF, .ref pC, .ref pA, .ref pB, .ref pR, .ref pK, .int nv, .int ns, .int nw])), (pX, .inl (cI, 64, .inl vx)), (pY, .inl (cI, 64, .inl vy))] := hD
  try dsimp only at hp_14
  subst hp_14
  refine lv_istore (lv' := [(6, .int (sw_side vx vy x.toNatClampNeg y.toNatClampNeg v.toNatClampNeg)), (5, .int (sw_side vx vy x.toNatClampNeg y.toNatClampNeg z.toNatClampNeg)), (0, .ref p), (1, .int x), (2, .int y), (3, .int z), (4, .int v)]) hx hb d_Pl_straddles_17 hl (by decide) rfl (fun ls hl => ?_)
  refine lv_iload hx hb d_Pl_straddles_19 (lv_at hl 1 rfl) ?_
  refine lv_if_le (tgt := 29) hx hb d_Pl_straddles_21 (by decide) (fun c_21 => ?_) (fun c_21 => ?_)
  · skip
    refine lv_iload hx hb d_Pl_straddles_29 (lv_at hl 1 rfl) ?_
    refine lv_if_ge (tgt := 39) hx hb d_Pl_straddles_31 (by decide) (fun c_31 => ?_) (fun c_31 => ?_)
    · skip
      refine lv_iconst (v := 1) hx hb d_Pl_straddles_39 (by decide) ?_
      refine lv_goto (tgt := 44) hx hb d_Pl_straddles_40 (by decide) ?_
      have hP9 := hP.sub (ws' := [(p, .inr (1, [.ref pX, .ref pY, .ref pF, .ref pC, .ref pA, .ref pB, .ref pR, .ref pK, .int nv, .int ns, .int nw])), (pX, .inl (cI, 64, .inl vx)), (pY, .inl (cI, 64, .inl vy))]) [0, 1, 2] rfl
      have hD9 := hD.sub (ws' := [(p, .inr (1, [.ref pX, .ref pY, .ref pF, .ref pC, .ref pA, .ref pB, .ref pR, .ref pK, .int nv, .int ns, .int nw])), (pX, .inl (cI, 64, .inl vx)), (pY, .inl (cI, 64, .inl vy))]) [0, 1, 2] (by decide) rfl
      exact W.zret (ty := .boolean) (v := 1) hx hb hr (rfl) (fun T9 hT9 hW9 => ⟨⟨1, (), rfl, by simp [sw_b, sw_str, c_21, c_31], by rw [hT9]; exact hP9, hD9⟩, hS.F hT9⟩) hS.2.2 d_Pl_straddles_44
    · skip
      refine lv_iload hx hb d_Pl_straddles_34 (lv_at hl 0 rfl) ?_
      refine lv_if_lt (tgt := 43) hx hb d_Pl_straddles_36 (by decide) (fun c_36 => ?_) (fun c_36 => ?_)
      · skip
        refine lv_iconst (v := 0) hx hb d_Pl_straddles_43 (by decide) ?_
        have hP9 := hP.sub (ws' := [(p, .inr (1, [.ref pX, .ref pY, .ref pF, .ref pC, .ref pA, .ref pB, .ref pR, .ref pK, .int nv, .int ns, .int nw])), (pX, .inl (cI, 64, .inl vx)), (pY, .inl (cI, 64, .inl vy))]) [0, 1, 2] rfl
        have hD9 := hD.sub (ws' := [(p, .inr (1, [.ref pX, .ref pY, .ref pF, .ref pC, .ref pA, .ref pB, .ref pR, .ref pK, .int nv, .int ns, .int nw])), (pX, .inl (cI, 64, .inl vx)), (pY, .inl (cI, 64, .inl vy))]) [0, 1, 2] (by decide) rfl
        exact W.zret (ty := .boolean) (v := 0) hx hb hr (rfl) (fun T9 hT9 hW9 => ⟨⟨0, (), rfl, by simp [sw_b, sw_str, c_21, c_31, c_36], by rw [hT9]; exact hP9, hD9⟩, hS.F hT9⟩) hS.2.2 d_Pl_straddles_44
      · skip
        refine lv_iconst (v := 1) hx hb d_Pl_straddles_39 (by decide) ?_
        refine lv_goto (tgt := 44) hx hb d_Pl_straddles_40 (by decide) ?_
        have hP9 := hP.sub (ws' := [(p, .inr (1, [.ref pX, .ref pY, .ref pF, .ref pC, .ref pA, .ref pB, .ref pR, .ref pK, .int nv, .int ns, .int nw])), (pX, .inl (cI, 64, .inl vx)), (pY, .inl (cI, 64, .inl vy))]) [0, 1, 2] rfl
        have hD9 := hD.sub (ws' := [(p, .inr (1, [.ref pX, .ref pY, .ref pF, .ref pC, .ref pA, .ref pB, .ref pR, .ref pK, .int nv, .int ns, .int nw])), (pX, .inl (cI, 64, .inl vx)), (pY, .inl (cI, 64, .inl vy))]) [0, 1, 2] (by decide) rfl
        exact W.zret (ty := .boolean) (v := 1) hx hb hr (rfl) (fun T9 hT9 hW9 => ⟨⟨1, (), rfl, by simp [sw_b, sw_str, c_21, c_31, c_36], by rw [hT9]; exact hP9, hD9⟩, hS.F hT9⟩) hS.2.2 d_Pl_straddles_44
  · skip
    refine lv_iload hx hb d_Pl_straddles_24 (lv_at hl 0 rfl) ?_
    refine lv_if_gt (tgt := 43) hx hb d_Pl_straddles_26 (by decide) (fun c_26 => ?_) (fun c_26 => ?_)
    · skip
      refine lv_iconst (v := 0) hx hb d_Pl_straddles_43 (by decide) ?_
      have hP9 := hP.sub (ws' := [(p, .inr (1, [.ref pX, .ref pY, .ref pF, .ref pC, .ref pA, .ref pB, .ref pR, .ref pK, .int nv, .int ns, .int nw])), (pX, .inl (cI, 64, .inl vx)), (pY, .inl (cI, 64, .inl vy))]) [0, 1, 2] rfl
      have hD9 := hD.sub (ws' := [(p, .inr (1, [.ref pX, .ref pY, .ref pF, .ref pC, .ref pA, .ref pB, .ref pR, .ref pK, .int nv, .int ns, .int nw])), (pX, .inl (cI, 64, .inl vx)), (pY, .inl (cI, 64, .inl vy))]) [0, 1, 2] (by decide) rfl
      exact W.zret (ty := .boolean) (v := 0) hx hb hr (rfl) (fun T9 hT9 hW9 => ⟨⟨0, (), rfl, by simp [sw_b, sw_str, c_21, c_26], by rw [hT9]; exact hP9, hD9⟩, hS.F hT9⟩) hS.2.2 d_Pl_straddles_44
    · skip
      refine lv_iload hx hb d_Pl_straddles_29 (lv_at hl 1 rfl) ?_
      refine lv_if_ge (tgt := 39) hx hb d_Pl_straddles_31 (by decide) (fun c_31 => ?_) (fun c_31 => ?_)
      · skip
        refine lv_iconst (v := 1) hx hb d_Pl_straddles_39 (by decide) ?_
        refine lv_goto (tgt := 44) hx hb d_Pl_straddles_40 (by decide) ?_
        have hP9 := hP.sub (ws' := [(p, .inr (1, [.ref pX, .ref pY, .ref pF, .ref pC, .ref pA, .ref pB, .ref pR, .ref pK, .int nv, .int ns, .int nw])), (pX, .inl (cI, 64, .inl vx)), (pY, .inl (cI, 64, .inl vy))]) [0, 1, 2] rfl
        have hD9 := hD.sub (ws' := [(p, .inr (1, [.ref pX, .ref pY, .ref pF, .ref pC, .ref pA, .ref pB, .ref pR, .ref pK, .int nv, .int ns, .int nw])), (pX, .inl (cI, 64, .inl vx)), (pY, .inl (cI, 64, .inl vy))]) [0, 1, 2] (by decide) rfl
        exact W.zret (ty := .boolean) (v := 1) hx hb hr (rfl) (fun T9 hT9 hW9 => ⟨⟨1, (), rfl, by simp [sw_b, sw_str, c_21, c_26, c_31], by rw [hT9]; exact hP9, hD9⟩, hS.F hT9⟩) hS.2.2 d_Pl_straddles_44
      · skip
        refine lv_iload hx hb d_Pl_straddles_34 (lv_at hl 0 rfl) ?_
        refine lv_if_lt (tgt := 43) hx hb d_Pl_straddles_36 (by decide) (fun c_36 => ?_) (fun c_36 => ?_)
        · skip
          refine lv_iconst (v := 0) hx hb d_Pl_straddles_43 (by decide) ?_
          have hP9 := hP.sub (ws' := [(p, .inr (1, [.ref pX, .ref pY, .ref pF, .ref pC, .ref pA, .ref pB, .ref pR, .ref pK, .int nv, .int ns, .int nw])), (pX, .inl (cI, 64, .inl vx)), (pY, .inl (cI, 64, .inl vy))]) [0, 1, 2] rfl
          have hD9 := hD.sub (ws' := [(p, .inr (1, [.ref pX, .ref pY, .ref pF, .ref pC, .ref pA, .ref pB, .ref pR, .ref pK, .int nv, .int ns, .int nw])), (pX, .inl (cI, 64, .inl vx)), (pY, .inl (cI, 64, .inl vy))]) [0, 1, 2] (by decide) rfl
          exact W.zret (ty := .boolean) (v := 0) hx hb hr (rfl) (fun T9 hT9 hW9 => ⟨⟨0, (), rfl, by simp [sw_b, sw_str, c_21, c_26, c_31, c_36], by rw [hT9]; exact hP9, hD9⟩, hS.F hT9⟩) hS.2.2 d_Pl_straddles_44
        · skip
          refine lv_iconst (v := 1) hx hb d_Pl_straddles_39 (by decide) ?_
          refine lv_goto (tgt := 44) hx hb d_Pl_straddles_40 (by decide) ?_
          have hP9 := hP.sub (ws' := [(p, .inr (1, [.ref pX, .ref pY, .ref pF, .ref pC, .ref pA, .ref pB, .ref pR, .ref pK, .int nv, .int ns, .int nw])), (pX, .inl (cI, 64, .inl vx)), (pY, .inl (cI, 64, .inl vy))]) [0, 1, 2] rfl
          have hD9 := hD.sub (ws' := [(p, .inr (1, [.ref pX, .ref pY, .ref pF, .ref pC, .ref pA, .ref pB, .ref pR, .ref pK, .int nv, .int ns, .int nw])), (pX, .inl (cI, 64, .inl vx)), (pY, .inl (cI, 64, .inl vy))]) [0, 1, 2] (by decide) rfl
          exact W.zret (ty := .boolean) (v := 1) hx hb hr (rfl) (fun T9 hT9 hW9 => ⟨⟨1, (), rfl, by simp [sw_b, sw_str, c_21, c_26, c_31, c_36], by rw [hT9]; exact hP9, hD9⟩, hS.F hT9⟩) hS.2.2 d_Pl_straddles_44

abbrev rm_Pl_leaveAlike : Room := { frames := 1, cells := 0, slots := 0, locals := 23 }
abbrev q_Pl_leaveAlike (D : va_G) (cI cL : ClassId) (A : Nat → Prop) (p : Nat) (x : Int32) (y : Int32) (z : Int32) (pX : Nat) (pY : Nat) (pF : Nat) (pC : Nat) (pA : Nat) (pB : Nat) (pR : Nat) (pK : Nat) (nv : Int32) (ns : Int32) (nw : Int32) (vx : Nat → Int32) (vy : Nat → Int32) : Array Value → State → Outcome → State → Prop := va_Qi (S := Unit) (fun (r : Int32) => fun (_ : Unit) => r = sw_b (sw_la vx vy x.toNatClampNeg y.toNatClampNeg z.toNatClampNeg)) (sw_R D A (fun (_ : Unit) => [(p, .inr (1, [.ref pX, .ref pY, .ref pF, .ref pC, .ref pA, .ref pB, .ref pR, .ref pK, .int nv, .int ns, .int nw])), (pX, .inl (cI, 64, .inl vx)), (pY, .inl (cI, 64, .inl vy))])) A
set_option maxHeartbeats 4000000 in
set_option maxRecDepth 100000 in
theorem c_Pl_leaveAlike (l : Launch) (D : va_G) (cI cL : ClassId) (tq sz : Nat) (p : Nat) (x : Int32) (y : Int32) (z : Int32) (pX : Nat) (pY : Nat) (pF : Nat) (pC : Nat) (pA : Nat) (pB : Nat) (pR : Nat) (pK : Nat) (nv : Int32) (ns : Int32) (nw : Int32) (vx : Nat → Int32) (vy : Nat → Int32) (ix : vp_in x 64) (iy : vp_in y 64) (iz : vp_in z 64) : Met l y_Pl_leaveAlike w_Pl_leaveAlike rm_Pl_leaveAlike (va_Pc [.ref p, .int x, .int y, .int z] (sw_B D cI cL tq sz [(p, .inr (1, [.ref pX, .ref pY, .ref pF, .ref pC, .ref pA, .ref pB, .ref pR, .ref pK, .int nv, .int ns, .int nw])), (pX, .inl (cI, 64, .inl vx)), (pY, .inl (cI, 64, .inl vy))])) (q_Pl_leaveAlike D cI cL (va_A [(p, .inr (1, [.ref pX, .ref pY, .ref pF, .ref pC, .ref pA, .ref pB, .ref pR, .ref pK, .int nv, .int ns, .int nw])), (pX, .inl (cI, 64, .inl vx)), (pY, .inl (cI, 64, .inl vy))] sz) p x y z pX pY pF pC pA pB pR pK nv ns nw vx vy) 0 0 (va_A [(p, .inr (1, [.ref pX, .ref pY, .ref pF, .ref pC, .ref pA, .ref pB, .ref pR, .ref pK, .int nv, .int ns, .int nw])), (pX, .inl (cI, 64, .inl vx)), (pY, .inl (cI, 64, .inl vy))] sz) := by
  refine Met.ofW (cc := b_Pl_leaveAlike) (maxL := 8) (ret := (some .boolean)) (by decide) rfl ?_
  intro mp me s mm args below meth mk s₁ B hml hv
  obtain ⟨rfl, hsz, hP, hK, hD0, hG⟩ := hv
  have hx := B.exec
  have hb := B.bytes
  have hr := B.returns
  have hts := atoms_spec (ws := w_Pl_leaveAlike) B.pre
  have hw : ∀ w ∈ sw_words, w.before _ s = true := fun w h => hts w (List.mem_cons_of_mem _ h)
  have hown : s.vm.findClass R_Pl = some mm.cls := findClass_of_methodNamed B.named
  have hlocks := B.notSynchronized
  subst hsz
  have hD := hD0.self (sz := s.heap.size)
  generalize hAe : va_A [(p, .inr (1, [.ref pX, .ref pY, .ref pF, .ref pC, .ref pA, .ref pB, .ref pR, .ref pK, .int nv, .int ns, .int nw])), (pX, .inl (cI, 64, .inl vx)), (pY, .inl (cI, 64, .inl vy))] s.heap.size = A at hD hG ⊢
  have hA : ∀ q : Nat, s.heap.size ≤ q → A q := fun q h => by rw [← hAe]; exact Or.inr h
  have hS : va_S A s.heap s.heap [] := va_S.rf
  have hl := lv_entry ([.ref p, .int x, .int y, .int z]) (n := 8) (Nat.le_of_ble_eq_true rfl)
  rw [lg_entry_eq]
  generalize (lg_sl ([.ref p, .int x, .int y, .int z]) ++ List.replicate (8 - (lg_sl ([.ref p, .int x, .int y, .int z])).length) Slot.unset).toArray = ls at hl ⊢
  have hl : lv_has ls 8 [(0, .ref p), (1, .int x), (2, .int y), (3, .int z)] := hl
  refine lv_aload_n hx hb d_Pl_leaveAlike_0 rfl (lv_at hl 0 rfl) ?_
  refine va_get (D := D) (ci := 1) (v := .ref pX) (C := R_Pl) (T := F_Pl) (N := 11) hx hb hw ku_Pl hown hK hP 0 rfl rfl 0 (by decide) (hw _ kw_8234c2ed) (fun _ h9 => h9) rfl d_Pl_leaveAlike_1 ?_
  refine lv_iload_n hx hb d_Pl_leaveAlike_4 rfl (lv_at hl 2 rfl) ?_
  refine va_iald hx hb hK hP 1 0 rfl rfl (by assumption) d_Pl_leaveAlike_5 ?_
  refine lv_aload_n hx hb d_Pl_leaveAlike_6 rfl (lv_at hl 0 rfl) ?_
  refine va_get (D := D) (ci := 1) (v := .ref pX) (C := R_Pl) (T := F_Pl) (N := 11) hx hb hw ku_Pl hown hK hP 0 rfl rfl 0 (by decide) (hw _ kw_8234c2ed) (fun _ h9 => h9) rfl d_Pl_leaveAlike_7 ?_
  refine lv_iload_n hx hb d_Pl_leaveAlike_10 rfl (lv_at hl 1 rfl) ?_
  refine va_iald hx hb hK hP 1 0 rfl rfl (by assumption) d_Pl_leaveAlike_11 ?_
  refine lv_isub hx hb d_Pl_leaveAlike_12 ?_
  refine lv_istore (lv' := [(4, .int ((vx y.toNatClampNeg) - (vx x.toNatClampNeg))), (0, .ref p), (1, .int x), (2, .int y), (3, .int z)]) hx hb d_Pl_leaveAlike_13 hl (by decide) rfl (fun ls hl => ?_)
  refine lv_aload_n hx hb d_Pl_leaveAlike_15 rfl (lv_at hl 1 rfl) ?_
  refine va_get (D := D) (ci := 1) (v := .ref pY) (C := R_Pl) (T := F_Pl) (N := 11) hx hb hw ku_Pl hown hK hP 0 rfl rfl 1 (by decide) (hw _ kw_c8115e4c) (fun _ h9 => h9) rfl d_Pl_leaveAlike_16 ?_
  refine lv_iload_n hx hb d_Pl_leaveAlike_19 rfl (lv_at hl 3 rfl) ?_
  refine va_iald hx hb hK hP 2 0 rfl rfl (by assumption) d_Pl_leaveAlike_20 ?_
  refine lv_aload_n hx hb d_Pl_leaveAlike_21 rfl (lv_at hl 1 rfl) ?_
  refine va_get (D := D) (ci := 1) (v := .ref pY) (C := R_Pl) (T := F_Pl) (N := 11) hx hb hw ku_Pl hown hK hP 0 rfl rfl 1 (by decide) (hw _ kw_c8115e4c) (fun _ h9 => h9) rfl d_Pl_leaveAlike_22 ?_
  refine lv_iload_n hx hb d_Pl_leaveAlike_25 rfl (lv_at hl 2 rfl) ?_
  refine va_iald hx hb hK hP 2 0 rfl rfl (by assumption) d_Pl_leaveAlike_26 ?_
  refine lv_isub hx hb d_Pl_leaveAlike_27 ?_
  refine lv_istore (lv' := [(5, .int ((vy y.toNatClampNeg) - (vy x.toNatClampNeg))), (4, .int ((vx y.toNatClampNeg) - (vx x.toNatClampNeg))), (0, .ref p), (1, .int x), (2, .int y), (3, .int z)]) hx hb d_Pl_leaveAlike_28 hl (by decide) rfl (fun ls hl => ?_)
  refine lv_aload_n hx hb d_Pl_leaveAlike_30 rfl (lv_at hl 2 rfl) ?_
  refine va_get (D := D) (ci := 1) (v := .ref pX) (C := R_Pl) (T := F_Pl) (N := 11) hx hb hw ku_Pl hown hK hP 0 rfl rfl 0 (by decide) (hw _ kw_8234c2ed) (fun _ h9 => h9) rfl d_Pl_leaveAlike_31 ?_
  refine lv_iload_n hx hb d_Pl_leaveAlike_34 rfl (lv_at hl 5 rfl) ?_
  refine va_iald hx hb hK hP 1 0 rfl rfl (by assumption) d_Pl_leaveAlike_35 ?_
  refine lv_aload_n hx hb d_Pl_leaveAlike_36 rfl (lv_at hl 2 rfl) ?_
  refine va_get (D := D) (ci := 1) (v := .ref pX) (C := R_Pl) (T := F_Pl) (N := 11) hx hb hw ku_Pl hown hK hP 0 rfl rfl 0 (by decide) (hw _ kw_8234c2ed) (fun _ h9 => h9) rfl d_Pl_leaveAlike_37 ?_
  refine lv_iload_n hx hb d_Pl_leaveAlike_40 rfl (lv_at hl 3 rfl) ?_
  refine va_iald hx hb hK hP 1 0 rfl rfl (by assumption) d_Pl_leaveAlike_41 ?_
  refine lv_isub hx hb d_Pl_leaveAlike_42 ?_
  refine lv_istore (lv' := [(6, .int ((vx z.toNatClampNeg) - (vx x.toNatClampNeg))), (5, .int ((vy y.toNatClampNeg) - (vy x.toNatClampNeg))), (4, .int ((vx y.toNatClampNeg) - (vx x.toNatClampNeg))), (0, .ref p), (1, .int x), (2, .int y), (3, .int z)]) hx hb d_Pl_leaveAlike_43 hl (by decide) rfl (fun ls hl => ?_)
  refine lv_aload_n hx hb d_Pl_leaveAlike_45 rfl (lv_at hl 3 rfl) ?_
  refine va_get (D := D) (ci := 1) (v := .ref pY) (C := R_Pl) (T := F_Pl) (N := 11) hx hb hw ku_Pl hown hK hP 0 rfl rfl 1 (by decide) (hw _ kw_c8115e4c) (fun _ h9 => h9) rfl d_Pl_leaveAlike_46 ?_
  refine lv_iload_n hx hb d_Pl_leaveAlike_49 rfl (lv_at hl 6 rfl) ?_
  refine va_iald hx hb hK hP 2 0 rfl rfl (by assumption) d_Pl_leaveAlike_50 ?_
  refine lv_aload_n hx hb d_Pl_leaveAlike_51 rfl (lv_at hl 3 rfl) ?_
  refine va_get (D := D) (ci := 1) (v := .ref pY) (C := R_Pl) (T := F_Pl) (N := 11) hx hb hw ku_Pl hown hK hP 0 rfl rfl 1 (by decide) (hw _ kw_c8115e4c) (fun _ h9 => h9) rfl d_Pl_leaveAlike_52 ?_
  refine lv_iload_n hx hb d_Pl_leaveAlike_55 rfl (lv_at hl 4 rfl) ?_
  refine va_iald hx hb hK hP 2 0 rfl rfl (by assumption) d_Pl_leaveAlike_56 ?_
  refine lv_isub hx hb d_Pl_leaveAlike_57 ?_
  refine lv_istore (lv' := [(7, .int ((vy z.toNatClampNeg) - (vy x.toNatClampNeg))), (6, .int ((vx z.toNatClampNeg) - (vx x.toNatClampNeg))), (5, .int ((vy y.toNatClampNeg) - (vy x.toNatClampNeg))), (4, .int ((vx y.toNatClampNeg) - (vx x.toNatClampNeg))), (0, .ref p), (1, .int x), (2, .int y), (3, .int z)]) hx hb d_Pl_leaveAlike_58 hl (by decide) rfl (fun ls hl => ?_)
  refine lv_iload hx hb d_Pl_leaveAlike_60 (lv_at hl 3 rfl) ?_
  refine lv_iload hx hb d_Pl_leaveAlike_62 (lv_at hl 2 rfl) ?_
  refine lv_iload hx hb d_Pl_leaveAlike_64 (lv_at hl 1 rfl) ?_
  refine lv_iload hx hb d_Pl_leaveAlike_66 (lv_at hl 0 rfl) ?_
  refine sw_ki0 (wr := [(p, .inr (1, [.ref pX, .ref pY, .ref pF, .ref pC, .ref pA, .ref pB, .ref pR, .ref pK, .int nv, .int ns, .int nw])), (pX, .inl (cI, 64, .inl vx)), (pY, .inl (cI, 64, .inl vy))]) (va_runSN (host := "SectorWalk") (As := [.int ((vx y.toNatClampNeg) - (vx x.toNatClampNeg)), .int ((vy y.toNatClampNeg) - (vy x.toNatClampNeg)), .int ((vx z.toNatClampNeg) - (vx x.toNatClampNeg)), .int ((vy z.toNatClampNeg) - (vy x.toNatClampNeg))]) (rest := []) ⟨hx, hb, hml, hown, hw⟩ (c_SW_cross l D cI cL tq _ ((vx y.toNatClampNeg) - (vx x.toNatClampNeg)) ((vy y.toNatClampNeg) - (vy x.toNatClampNeg)) ((vx z.toNatClampNeg) - (vx x.toNatClampNeg)) ((vy z.toNatClampNeg) - (vy x.toNatClampNeg))) ⟨va_cnB 4 hw (sw_gN kc_SW_cross) rfl rfl rfl (hG.nest (by decide +kernel)) (hw _ kw_7ea4a733) yd_SW_cross ⟨Nat.le_of_ble_eq_true rfl, Nat.le_of_ble_eq_true rfl⟩, hw _ kw_b1bc16be, trivial⟩ (sw_preS hK hP hD hS hA hG [] rfl (by decide)) rfl rfl hl.1 rfl (lv_room (Nat.le_of_ble_eq_true rfl)) d_Pl_leaveAlike_68 ⟨Nat.le_of_ble_eq_true rfl, Nat.le_of_ble_eq_true rfl⟩) hP hD hS hA [] [0, 1, 2] rfl rfl (by decide) (by decide) (fun r_68 _ H locs hp_68 hP hD hS => ?_)
  replace hP : va_P D sw_cl [(p, .inr (1, [.ref pX, .ref pY, .ref pF, .ref pC, .ref pA, .ref pB, .ref pR, .ref pK, .int nv, .int ns, .int nw])), (pX, .inl (cI, 64, .inl vx)), (pY, .inl (cI, 64, .inl vy))] H := hP
  replace hD : va_D A [(p, .inr (1, [.ref pX, .ref pY, .ref pF, .ref pC, .ref pA, .ref pB, .ref pR, .ref pK, .int nv, .int ns, .int nw])), (pX, .inl (cI, 64, .inl vx)), (pY, .inl (cI, 64, .inl vy))] := hD
  try dsimp only at hp_68
  subst hp_68
  refine lv_if_ne (tgt := 92) hx hb d_Pl_leaveAlike_71 (by decide) (fun c_71 => ?_) (fun c_71 => ?_)
  · skip
    refine lv_iconst (v := 0) hx hb d_Pl_leaveAlike_92 (by decide) ?_
    have hP9 := hP.sub (ws' := [(p, .inr (1, [.ref pX, .ref pY, .ref pF, .ref pC, .ref pA, .ref pB, .ref pR, .ref pK, .int nv, .int ns, .int nw])), (pX, .inl (cI, 64, .inl vx)), (pY, .inl (cI, 64, .inl vy))]) [0, 1, 2] rfl
    have hD9 := hD.sub (ws' := [(p, .inr (1, [.ref pX, .ref pY, .ref pF, .ref pC, .ref pA, .ref pB, .ref pR, .ref pK, .int nv, .int ns, .int nw])), (pX, .inl (cI, 64, .inl vx)), (pY, .inl (cI, 64, .inl vy))]) [0, 1, 2] (by decide) rfl
    exact W.zret (ty := .boolean) (v := 0) hx hb hr (rfl) (fun T9 hT9 hW9 => ⟨⟨0, (), rfl, by simp [sw_b, sw_la, c_71], by rw [hT9]; exact hP9, hD9⟩, hS.F hT9⟩) hS.2.2 d_Pl_leaveAlike_93
  · skip
    refine lv_iload hx hb d_Pl_leaveAlike_74 (lv_at hl 3 rfl) ?_
    refine lv_iload hx hb d_Pl_leaveAlike_76 (lv_at hl 1 rfl) ?_
    refine lv_imul hx hb d_Pl_leaveAlike_78 ?_
    refine lv_iload hx hb d_Pl_leaveAlike_79 (lv_at hl 2 rfl) ?_
    refine lv_iload hx hb d_Pl_leaveAlike_81 (lv_at hl 0 rfl) ?_
    refine lv_imul hx hb d_Pl_leaveAlike_83 ?_
    refine lv_iadd hx hb d_Pl_leaveAlike_84 ?_
    refine lv_if_le (tgt := 92) hx hb d_Pl_leaveAlike_85 (by decide) (fun c_85 => ?_) (fun c_85 => ?_)
    · skip
      refine lv_iconst (v := 0) hx hb d_Pl_leaveAlike_92 (by decide) ?_
      have hP9 := hP.sub (ws' := [(p, .inr (1, [.ref pX, .ref pY, .ref pF, .ref pC, .ref pA, .ref pB, .ref pR, .ref pK, .int nv, .int ns, .int nw])), (pX, .inl (cI, 64, .inl vx)), (pY, .inl (cI, 64, .inl vy))]) [0, 1, 2] rfl
      have hD9 := hD.sub (ws' := [(p, .inr (1, [.ref pX, .ref pY, .ref pF, .ref pC, .ref pA, .ref pB, .ref pR, .ref pK, .int nv, .int ns, .int nw])), (pX, .inl (cI, 64, .inl vx)), (pY, .inl (cI, 64, .inl vy))]) [0, 1, 2] (by decide) rfl
      exact W.zret (ty := .boolean) (v := 0) hx hb hr (rfl) (fun T9 hT9 hW9 => ⟨⟨0, (), rfl, by simp [sw_b, sw_la, c_71, c_85], by rw [hT9]; exact hP9, hD9⟩, hS.F hT9⟩) hS.2.2 d_Pl_leaveAlike_93
    · skip
      refine lv_iconst (v := 1) hx hb d_Pl_leaveAlike_88 (by decide) ?_
      refine lv_goto (tgt := 93) hx hb d_Pl_leaveAlike_89 (by decide) ?_
      have hP9 := hP.sub (ws' := [(p, .inr (1, [.ref pX, .ref pY, .ref pF, .ref pC, .ref pA, .ref pB, .ref pR, .ref pK, .int nv, .int ns, .int nw])), (pX, .inl (cI, 64, .inl vx)), (pY, .inl (cI, 64, .inl vy))]) [0, 1, 2] rfl
      have hD9 := hD.sub (ws' := [(p, .inr (1, [.ref pX, .ref pY, .ref pF, .ref pC, .ref pA, .ref pB, .ref pR, .ref pK, .int nv, .int ns, .int nw])), (pX, .inl (cI, 64, .inl vx)), (pY, .inl (cI, 64, .inl vy))]) [0, 1, 2] (by decide) rfl
      exact W.zret (ty := .boolean) (v := 1) hx hb hr (rfl) (fun T9 hT9 hW9 => ⟨⟨1, (), rfl, by simp [sw_b, sw_la, c_71, c_85], by rw [hT9]; exact hP9, hD9⟩, hS.F hT9⟩) hS.2.2 d_Pl_leaveAlike_93

abbrev rm_Pl_boxesMeet : Room := { frames := 1, cells := 0, slots := 0, locals := 14 }
abbrev q_Pl_boxesMeet (D : va_G) (cI cL : ClassId) (A : Nat → Prop) (f0 : Nat) (x : Int32) (y : Int32) (z : Int32) (v : Int32) (f : Nat → Int32) : Array Value → State → Outcome → State → Prop := va_Qi (S := Unit) (fun (r : Int32) => fun (_ : Unit) => r = sw_b (sw_bm f x.toNatClampNeg y.toNatClampNeg z.toNatClampNeg v.toNatClampNeg)) (sw_R D A (fun (_ : Unit) => [(f0, .inl (cI, 64, .inl f))])) A
set_option maxHeartbeats 4000000 in
set_option maxRecDepth 100000 in
theorem c_Pl_boxesMeet (l : Launch) (D : va_G) (cI cL : ClassId) (tq sz : Nat) (f0 : Nat) (x : Int32) (y : Int32) (z : Int32) (v : Int32) (f : Nat → Int32) (ix : vp_in x 64) (iy : vp_in y 64) (iz : vp_in z 64) (iv : vp_in v 64) : Met l y_Pl_boxesMeet w_Pl_boxesMeet rm_Pl_boxesMeet (va_Pc [.ref f0, .int x, .int y, .int z, .int v] (sw_B D cI cL tq sz [(f0, .inl (cI, 64, .inl f))])) (q_Pl_boxesMeet D cI cL (va_A [(f0, .inl (cI, 64, .inl f))] sz) f0 x y z v f) 0 0 (va_A [(f0, .inl (cI, 64, .inl f))] sz) := by
  refine Met.ofW (cc := b_Pl_boxesMeet) (maxL := 5) (ret := (some .boolean)) (by decide) rfl ?_
  intro mp me s mm args below meth mk s₁ B hml hv
  obtain ⟨rfl, hsz, hP, hK, hD0, hG⟩ := hv
  have hx := B.exec
  have hb := B.bytes
  have hr := B.returns
  have hts := atoms_spec (ws := w_Pl_boxesMeet) B.pre
  have hw : ∀ w ∈ sw_words, w.before _ s = true := fun w h => hts w (List.mem_cons_of_mem _ h)
  have hown : s.vm.findClass R_Pl = some mm.cls := findClass_of_methodNamed B.named
  have hlocks := B.notSynchronized
  subst hsz
  have hD := hD0.self (sz := s.heap.size)
  generalize hAe : va_A [(f0, .inl (cI, 64, .inl f))] s.heap.size = A at hD hG ⊢
  have hA : ∀ q : Nat, s.heap.size ≤ q → A q := fun q h => by rw [← hAe]; exact Or.inr h
  have hS : va_S A s.heap s.heap [] := va_S.rf
  have hl := lv_entry ([.ref f0, .int x, .int y, .int z, .int v]) (n := 5) (Nat.le_of_ble_eq_true rfl)
  rw [lg_entry_eq]
  generalize (lg_sl ([.ref f0, .int x, .int y, .int z, .int v]) ++ List.replicate (5 - (lg_sl ([.ref f0, .int x, .int y, .int z, .int v])).length) Slot.unset).toArray = ls at hl ⊢
  have hl : lv_has ls 5 [(0, .ref f0), (1, .int x), (2, .int y), (3, .int z), (4, .int v)] := hl
  refine lv_aload_n hx hb d_Pl_boxesMeet_0 rfl (lv_at hl 0 rfl) ?_
  refine lv_iload_n hx hb d_Pl_boxesMeet_1 rfl (lv_at hl 1 rfl) ?_
  refine va_iald hx hb hK hP 0 0 rfl rfl (by assumption) d_Pl_boxesMeet_2 ?_
  refine lv_aload_n hx hb d_Pl_boxesMeet_3 rfl (lv_at hl 0 rfl) ?_
  refine lv_iload_n hx hb d_Pl_boxesMeet_4 rfl (lv_at hl 2 rfl) ?_
  refine va_iald hx hb hK hP 0 0 rfl rfl (by assumption) d_Pl_boxesMeet_5 ?_
  refine va_mmax hx hb (hml.trans hl.1.symm) hown (hw _ kw_abc36f78) (hw _ kw_05e3ba51) (hw _ kw_0f7fb0a1) (hw _ kc_Math_max) (Nat.le_of_ble_eq_true rfl) (Nat.le_of_ble_eq_true rfl) (Nat.le_of_ble_eq_true rfl) (Nat.le_of_ble_eq_true rfl) d_Pl_boxesMeet_6 ?_
  refine lv_aload_n hx hb d_Pl_boxesMeet_9 rfl (lv_at hl 0 rfl) ?_
  refine lv_iload_n hx hb d_Pl_boxesMeet_10 rfl (lv_at hl 3 rfl) ?_
  refine va_iald hx hb hK hP 0 0 rfl rfl (by assumption) d_Pl_boxesMeet_11 ?_
  refine lv_aload_n hx hb d_Pl_boxesMeet_12 rfl (lv_at hl 0 rfl) ?_
  refine lv_iload hx hb d_Pl_boxesMeet_13 (lv_at hl 4 rfl) ?_
  refine va_iald hx hb hK hP 0 0 rfl rfl (by assumption) d_Pl_boxesMeet_15 ?_
  refine va_mmin hx hb (hml.trans hl.1.symm) hown (hw _ kw_d854bd5a) (hw _ kw_e38315b0) (hw _ kw_0f7fb0a1) (hw _ kc_Math_min) (Nat.le_of_ble_eq_true rfl) (Nat.le_of_ble_eq_true rfl) (Nat.le_of_ble_eq_true rfl) (Nat.le_of_ble_eq_true rfl) d_Pl_boxesMeet_16 ?_
  refine lv_icmp_lt (tgt := 48) hx hb d_Pl_boxesMeet_19 (by decide) (fun c_19 => ?_) (fun c_19 => ?_)
  · skip
    replace c_19 : ((sw_mx (f x.toNatClampNeg) (f y.toNatClampNeg)) < (sw_mn (f z.toNatClampNeg) (f v.toNatClampNeg))) := c_19
    refine lv_iconst (v := 0) hx hb d_Pl_boxesMeet_48 (by decide) ?_
    have hP9 := hP.sub (ws' := [(f0, .inl (cI, 64, .inl f))]) [0] rfl
    have hD9 := hD.sub (ws' := [(f0, .inl (cI, 64, .inl f))]) [0] (by decide) rfl
    exact W.zret (ty := .boolean) (v := 0) hx hb hr (rfl) (fun T9 hT9 hW9 => ⟨⟨0, (), rfl, by simp [sw_b, sw_bm, c_19], by rw [hT9]; exact hP9, hD9⟩, hS.F hT9⟩) hS.2.2 d_Pl_boxesMeet_49
  · skip
    replace c_19 : ¬ ((sw_mx (f x.toNatClampNeg) (f y.toNatClampNeg)) < (sw_mn (f z.toNatClampNeg) (f v.toNatClampNeg))) := c_19
    refine lv_aload_n hx hb d_Pl_boxesMeet_22 rfl (lv_at hl 0 rfl) ?_
    refine lv_iload_n hx hb d_Pl_boxesMeet_23 rfl (lv_at hl 3 rfl) ?_
    refine va_iald hx hb hK hP 0 0 rfl rfl (by assumption) d_Pl_boxesMeet_24 ?_
    refine lv_aload_n hx hb d_Pl_boxesMeet_25 rfl (lv_at hl 0 rfl) ?_
    refine lv_iload hx hb d_Pl_boxesMeet_26 (lv_at hl 4 rfl) ?_
    refine va_iald hx hb hK hP 0 0 rfl rfl (by assumption) d_Pl_boxesMeet_28 ?_
    refine va_mmax hx hb (hml.trans hl.1.symm) hown (hw _ kw_abc36f78) (hw _ kw_05e3ba51) (hw _ kw_0f7fb0a1) (hw _ kc_Math_max) (Nat.le_of_ble_eq_true rfl) (Nat.le_of_ble_eq_true rfl) (Nat.le_of_ble_eq_true rfl) (Nat.le_of_ble_eq_true rfl) d_Pl_boxesMeet_29 ?_
    refine lv_aload_n hx hb d_Pl_boxesMeet_32 rfl (lv_at hl 0 rfl) ?_
    refine lv_iload_n hx hb d_Pl_boxesMeet_33 rfl (lv_at hl 1 rfl) ?_
    refine va_iald hx hb hK hP 0 0 rfl rfl (by assumption) d_Pl_boxesMeet_34 ?_
    refine lv_aload_n hx hb d_Pl_boxesMeet_35 rfl (lv_at hl 0 rfl) ?_
    refine lv_iload_n hx hb d_Pl_boxesMeet_36 rfl (lv_at hl 2 rfl) ?_
    refine va_iald hx hb hK hP 0 0 rfl rfl (by assumption) d_Pl_boxesMeet_37 ?_
    refine va_mmin hx hb (hml.trans hl.1.symm) hown (hw _ kw_d854bd5a) (hw _ kw_e38315b0) (hw _ kw_0f7fb0a1) (hw _ kc_Math_min) (Nat.le_of_ble_eq_true rfl) (Nat.le_of_ble_eq_true rfl) (Nat.le_of_ble_eq_true rfl) (Nat.le_of_ble_eq_true rfl) d_Pl_boxesMeet_38 ?_
    refine lv_icmp_lt (tgt := 48) hx hb d_Pl_boxesMeet_41 (by decide) (fun c_41 => ?_) (fun c_41 => ?_)
    · skip
      replace c_41 : ((sw_mx (f z.toNatClampNeg) (f v.toNatClampNeg)) < (sw_mn (f x.toNatClampNeg) (f y.toNatClampNeg))) := c_41
      refine lv_iconst (v := 0) hx hb d_Pl_boxesMeet_48 (by decide) ?_
      have hP9 := hP.sub (ws' := [(f0, .inl (cI, 64, .inl f))]) [0] rfl
      have hD9 := hD.sub (ws' := [(f0, .inl (cI, 64, .inl f))]) [0] (by decide) rfl
      exact W.zret (ty := .boolean) (v := 0) hx hb hr (rfl) (fun T9 hT9 hW9 => ⟨⟨0, (), rfl, by simp [sw_b, sw_bm, c_19, c_41], by rw [hT9]; exact hP9, hD9⟩, hS.F hT9⟩) hS.2.2 d_Pl_boxesMeet_49
    · skip
      replace c_41 : ¬ ((sw_mx (f z.toNatClampNeg) (f v.toNatClampNeg)) < (sw_mn (f x.toNatClampNeg) (f y.toNatClampNeg))) := c_41
      refine lv_iconst (v := 1) hx hb d_Pl_boxesMeet_44 (by decide) ?_
      refine lv_goto (tgt := 49) hx hb d_Pl_boxesMeet_45 (by decide) ?_
      have hP9 := hP.sub (ws' := [(f0, .inl (cI, 64, .inl f))]) [0] rfl
      have hD9 := hD.sub (ws' := [(f0, .inl (cI, 64, .inl f))]) [0] (by decide) rfl
      exact W.zret (ty := .boolean) (v := 1) hx hb hr (rfl) (fun T9 hT9 hW9 => ⟨⟨1, (), rfl, by simp [sw_b, sw_bm, c_19, c_41], by rw [hT9]; exact hP9, hD9⟩, hS.F hT9⟩) hS.2.2 d_Pl_boxesMeet_49

abbrev rm_Pl_clash : Room := { frames := 3, cells := 0, slots := 0, locals := 72 }
abbrev q_Pl_clash (D : va_G) (cI cL : ClassId) (A : Nat → Prop) (p : Nat) (x : Int32) (y : Int32) (pX : Nat) (pY : Nat) (pF : Nat) (pC : Nat) (pA : Nat) (pB : Nat) (pR : Nat) (pK : Nat) (nv : Int32) (ns : Int32) (nw : Int32) (vx : Nat → Int32) (vy : Nat → Int32) (fa : Nat → Int32) (tb : Nat → Int32) : Array Value → State → Outcome → State → Prop := va_Qi (S := Unit) (fun (r : Int32) => fun (_ : Unit) => r = sw_b (sw_clash vx vy fa tb x.toNatClampNeg y.toNatClampNeg)) (sw_R D A (fun (_ : Unit) => [(p, .inr (1, [.ref pX, .ref pY, .ref pF, .ref pC, .ref pA, .ref pB, .ref pR, .ref pK, .int nv, .int ns, .int nw])), (pX, .inl (cI, 64, .inl vx)), (pY, .inl (cI, 64, .inl vy)), (pA, .inl (cI, 64, .inl fa)), (pB, .inl (cI, 64, .inl tb))])) A
set_option maxHeartbeats 4000000 in
set_option maxRecDepth 100000 in
theorem c_Pl_clash (l : Launch) (D : va_G) (cI cL : ClassId) (tq sz : Nat) (p : Nat) (x : Int32) (y : Int32) (pX : Nat) (pY : Nat) (pF : Nat) (pC : Nat) (pA : Nat) (pB : Nat) (pR : Nat) (pK : Nat) (nv : Int32) (ns : Int32) (nw : Int32) (vx : Nat → Int32) (vy : Nat → Int32) (fa : Nat → Int32) (tb : Nat → Int32) (ix : vp_in x 64) (iy : vp_in y 64) (jx : vp_in (fa x.toNatClampNeg) 64) (kx : vp_in (tb x.toNatClampNeg) 64) (jy : vp_in (fa y.toNatClampNeg) 64) (ky : vp_in (tb y.toNatClampNeg) 64) : Met l y_Pl_clash w_Pl_clash rm_Pl_clash (va_Pc [.ref p, .int x, .int y] (sw_B D cI cL tq sz [(p, .inr (1, [.ref pX, .ref pY, .ref pF, .ref pC, .ref pA, .ref pB, .ref pR, .ref pK, .int nv, .int ns, .int nw])), (pX, .inl (cI, 64, .inl vx)), (pY, .inl (cI, 64, .inl vy)), (pA, .inl (cI, 64, .inl fa)), (pB, .inl (cI, 64, .inl tb))])) (q_Pl_clash D cI cL (va_A [(p, .inr (1, [.ref pX, .ref pY, .ref pF, .ref pC, .ref pA, .ref pB, .ref pR, .ref pK, .int nv, .int ns, .int nw])), (pX, .inl (cI, 64, .inl vx)), (pY, .inl (cI, 64, .inl vy)), (pA, .inl (cI, 64, .inl fa)), (pB, .inl (cI, 64, .inl tb))] sz) p x y pX pY pF pC pA pB pR pK nv ns nw vx vy fa tb) 0 0 (va_A [(p, .inr (1, [.ref pX, .ref pY, .ref pF, .ref pC, .ref pA, .ref pB, .ref pR, .ref pK, .int nv, .int ns, .int nw])), (pX, .inl (cI, 64, .inl vx)), (pY, .inl (cI, 64, .inl vy)), (pA, .inl (cI, 64, .inl fa)), (pB, .inl (cI, 64, .inl tb))] sz) := by
  refine Met.ofW (cc := b_Pl_clash) (maxL := 7) (ret := (some .boolean)) (by decide) rfl ?_
  intro mp me s mm args below meth mk s₁ B hml hv
  obtain ⟨rfl, hsz, hP, hK, hD0, hG⟩ := hv
  have hx := B.exec
  have hb := B.bytes
  have hr := B.returns
  have hts := atoms_spec (ws := w_Pl_clash) B.pre
  have hw : ∀ w ∈ sw_words, w.before _ s = true := fun w h => hts w (List.mem_cons_of_mem _ h)
  have hown : s.vm.findClass R_Pl = some mm.cls := findClass_of_methodNamed B.named
  have hlocks := B.notSynchronized
  subst hsz
  have hD := hD0.self (sz := s.heap.size)
  generalize hAe : va_A [(p, .inr (1, [.ref pX, .ref pY, .ref pF, .ref pC, .ref pA, .ref pB, .ref pR, .ref pK, .int nv, .int ns, .int nw])), (pX, .inl (cI, 64, .inl vx)), (pY, .inl (cI, 64, .inl vy)), (pA, .inl (cI, 64, .inl fa)), (pB, .inl (cI, 64, .inl tb))] s.heap.size = A at hD hG ⊢
  have hA : ∀ q : Nat, s.heap.size ≤ q → A q := fun q h => by rw [← hAe]; exact Or.inr h
  have hS : va_S A s.heap s.heap [] := va_S.rf
  have hl := lv_entry ([.ref p, .int x, .int y]) (n := 7) (Nat.le_of_ble_eq_true rfl)
  rw [lg_entry_eq]
  generalize (lg_sl ([.ref p, .int x, .int y]) ++ List.replicate (7 - (lg_sl ([.ref p, .int x, .int y])).length) Slot.unset).toArray = ls at hl ⊢
  have hl : lv_has ls 7 [(0, .ref p), (1, .int x), (2, .int y)] := hl
  refine lv_aload_n hx hb d_Pl_clash_0 rfl (lv_at hl 0 rfl) ?_
  refine va_get (D := D) (ci := 1) (v := .ref pA) (C := R_Pl) (T := F_Pl) (N := 11) hx hb hw ku_Pl hown hK hP 0 rfl rfl 4 (by decide) (hw _ kw_8b810f0c) (fun _ h9 => h9) rfl d_Pl_clash_1 ?_
  refine lv_iload_n hx hb d_Pl_clash_4 rfl (lv_at hl 1 rfl) ?_
  refine va_iald hx hb hK hP 3 0 rfl rfl (by assumption) d_Pl_clash_5 ?_
  refine lv_istore_n (lv' := [(3, .int (fa x.toNatClampNeg)), (0, .ref p), (1, .int x), (2, .int y)]) hx hb d_Pl_clash_6 rfl hl (by decide) rfl (fun ls hl => ?_)
  refine lv_aload_n hx hb d_Pl_clash_7 rfl (lv_at hl 1 rfl) ?_
  refine va_get (D := D) (ci := 1) (v := .ref pB) (C := R_Pl) (T := F_Pl) (N := 11) hx hb hw ku_Pl hown hK hP 0 rfl rfl 5 (by decide) (hw _ kw_1e4d1ebb) (fun _ h9 => h9) rfl d_Pl_clash_8 ?_
  refine lv_iload_n hx hb d_Pl_clash_11 rfl (lv_at hl 2 rfl) ?_
  refine va_iald hx hb hK hP 4 0 rfl rfl (by assumption) d_Pl_clash_12 ?_
  refine lv_istore (lv' := [(4, .int (tb x.toNatClampNeg)), (3, .int (fa x.toNatClampNeg)), (0, .ref p), (1, .int x), (2, .int y)]) hx hb d_Pl_clash_13 hl (by decide) rfl (fun ls hl => ?_)
  refine lv_aload_n hx hb d_Pl_clash_15 rfl (lv_at hl 2 rfl) ?_
  refine va_get (D := D) (ci := 1) (v := .ref pA) (C := R_Pl) (T := F_Pl) (N := 11) hx hb hw ku_Pl hown hK hP 0 rfl rfl 4 (by decide) (hw _ kw_8b810f0c) (fun _ h9 => h9) rfl d_Pl_clash_16 ?_
  refine lv_iload_n hx hb d_Pl_clash_19 rfl (lv_at hl 4 rfl) ?_
  refine va_iald hx hb hK hP 3 0 rfl rfl (by assumption) d_Pl_clash_20 ?_
  refine lv_istore (lv' := [(5, .int (fa y.toNatClampNeg)), (4, .int (tb x.toNatClampNeg)), (3, .int (fa x.toNatClampNeg)), (0, .ref p), (1, .int x), (2, .int y)]) hx hb d_Pl_clash_21 hl (by decide) rfl (fun ls hl => ?_)
  refine lv_aload_n hx hb d_Pl_clash_23 rfl (lv_at hl 3 rfl) ?_
  refine va_get (D := D) (ci := 1) (v := .ref pB) (C := R_Pl) (T := F_Pl) (N := 11) hx hb hw ku_Pl hown hK hP 0 rfl rfl 5 (by decide) (hw _ kw_1e4d1ebb) (fun _ h9 => h9) rfl d_Pl_clash_24 ?_
  refine lv_iload_n hx hb d_Pl_clash_27 rfl (lv_at hl 5 rfl) ?_
  refine va_iald hx hb hK hP 4 0 rfl rfl (by assumption) d_Pl_clash_28 ?_
  refine lv_istore (lv' := [(6, .int (tb y.toNatClampNeg)), (5, .int (fa y.toNatClampNeg)), (4, .int (tb x.toNatClampNeg)), (3, .int (fa x.toNatClampNeg)), (0, .ref p), (1, .int x), (2, .int y)]) hx hb d_Pl_clash_29 hl (by decide) rfl (fun ls hl => ?_)
  refine lv_iload_n hx hb d_Pl_clash_31 rfl (lv_at hl 3 rfl) ?_
  refine lv_iload hx hb d_Pl_clash_32 (lv_at hl 1 rfl) ?_
  refine lv_icmp_ne (tgt := 47) hx hb d_Pl_clash_34 (by decide) (fun c_34 => ?_) (fun c_34 => ?_)
  · skip
    refine lv_iload_n hx hb d_Pl_clash_47 rfl (lv_at hl 3 rfl) ?_
    refine lv_iload hx hb d_Pl_clash_48 (lv_at hl 0 rfl) ?_
    refine lv_icmp_ne (tgt := 63) hx hb d_Pl_clash_50 (by decide) (fun c_50 => ?_) (fun c_50 => ?_)
    · skip
      refine lv_iload hx hb d_Pl_clash_63 (lv_at hl 2 rfl) ?_
      refine lv_iload hx hb d_Pl_clash_65 (lv_at hl 1 rfl) ?_
      refine lv_icmp_ne (tgt := 80) hx hb d_Pl_clash_67 (by decide) (fun c_67 => ?_) (fun c_67 => ?_)
      · skip
        refine lv_iload hx hb d_Pl_clash_80 (lv_at hl 2 rfl) ?_
        refine lv_iload hx hb d_Pl_clash_82 (lv_at hl 0 rfl) ?_
        refine lv_icmp_ne (tgt := 97) hx hb d_Pl_clash_84 (by decide) (fun c_84 => ?_) (fun c_84 => ?_)
        · skip
          refine lv_aload_n hx hb d_Pl_clash_97 rfl (lv_at hl 4 rfl) ?_
          refine va_get (D := D) (ci := 1) (v := .ref pX) (C := R_Pl) (T := F_Pl) (N := 11) hx hb hw ku_Pl hown hK hP 0 rfl rfl 0 (by decide) (hw _ kw_8234c2ed) (fun _ h9 => h9) rfl d_Pl_clash_98 ?_
          refine lv_iload_n hx hb d_Pl_clash_101 rfl (lv_at hl 3 rfl) ?_
          refine lv_iload hx hb d_Pl_clash_102 (lv_at hl 2 rfl) ?_
          refine lv_iload hx hb d_Pl_clash_104 (lv_at hl 1 rfl) ?_
          refine lv_iload hx hb d_Pl_clash_106 (lv_at hl 0 rfl) ?_
          refine sw_ki0 (wr := [(p, .inr (1, [.ref pX, .ref pY, .ref pF, .ref pC, .ref pA, .ref pB, .ref pR, .ref pK, .int nv, .int ns, .int nw])), (pY, .inl (cI, 64, .inl vy)), (pA, .inl (cI, 64, .inl fa)), (pB, .inl (cI, 64, .inl tb))]) (va_runS (As := [.ref pX, .int (fa x.toNatClampNeg), .int (tb x.toNatClampNeg), .int (fa y.toNatClampNeg), .int (tb y.toNatClampNeg)]) (rest := []) ⟨hx, hb, hml, hown, hw⟩ (c_Pl_boxesMeet l D cI cL tq _ pX (fa x.toNatClampNeg) (tb x.toNatClampNeg) (fa y.toNatClampNeg) (tb y.toNatClampNeg) vx (by assumption) (by assumption) (by assumption) (by assumption)) (cwS 5 hw (sw_gS kw_9dfe1215 kw_a33295e2 kw_e4821dd4 kc_Pl_boxesMeet) rfl rfl rfl ⟨rfl, yd_Pl_boxesMeet⟩ ⟨Nat.le_of_ble_eq_true rfl, Nat.le_of_ble_eq_true rfl⟩) (sw_preS hK hP hD hS hA hG [1] rfl (by decide)) rfl rfl hl.1 rfl (lv_room (Nat.le_of_ble_eq_true rfl)) d_Pl_clash_108 ⟨Nat.le_of_ble_eq_true rfl, Nat.le_of_ble_eq_true rfl⟩) hP hD hS hA [1] [0, 2, 3, 4] rfl rfl (by decide) (by decide) (fun r_108 _ H locs hp_108 hP hD hS => ?_)
          replace hP : va_P D sw_cl [(p, .inr (1, [.ref pX, .ref pY, .ref pF, .ref pC, .ref pA, .ref pB, .ref pR, .ref pK, .int nv, .int ns, .int nw])), (pY, .inl (cI, 64, .inl vy)), (pA, .inl (cI, 64, .inl fa)), (pB, .inl (cI, 64, .inl tb)), (pX, .inl (cI, 64, .inl vx))] H := hP
          replace hD : va_D A [(p, .inr (1, [.ref pX, .ref pY, .ref pF, .ref pC, .ref pA, .ref pB, .ref pR, .ref pK, .int nv, .int ns, .int nw])), (pY, .inl (cI, 64, .inl vy)), (pA, .inl (cI, 64, .inl fa)), (pB, .inl (cI, 64, .inl tb)), (pX, .inl (cI, 64, .inl vx))] := hD
          try dsimp only at hp_108
          subst hp_108
          refine lv_if_eq (tgt := 163) hx hb d_Pl_clash_111 (by decide) (fun c_111 => ?_) (fun c_111 => ?_)
          · skip
            replace c_111 := sw_b0.mp c_111
            refine lv_iconst (v := 0) hx hb d_Pl_clash_163 (by decide) ?_
            have hP9 := hP.sub (ws' := [(p, .inr (1, [.ref pX, .ref pY, .ref pF, .ref pC, .ref pA, .ref pB, .ref pR, .ref pK, .int nv, .int ns, .int nw])), (pX, .inl (cI, 64, .inl vx)), (pY, .inl (cI, 64, .inl vy)), (pA, .inl (cI, 64, .inl fa)), (pB, .inl (cI, 64, .inl tb))]) [0, 4, 1, 2, 3] rfl
            have hD9 := hD.sub (ws' := [(p, .inr (1, [.ref pX, .ref pY, .ref pF, .ref pC, .ref pA, .ref pB, .ref pR, .ref pK, .int nv, .int ns, .int nw])), (pX, .inl (cI, 64, .inl vx)), (pY, .inl (cI, 64, .inl vy)), (pA, .inl (cI, 64, .inl fa)), (pB, .inl (cI, 64, .inl tb))]) [0, 4, 1, 2, 3] (by decide) rfl
            exact W.zret (ty := .boolean) (v := 0) hx hb hr (rfl) (fun T9 hT9 hW9 => ⟨⟨0, (), rfl, by simp [sw_b, sw_clash, sw_cl4, c_34, c_50, c_67, c_84, c_111], by rw [hT9]; exact hP9, hD9⟩, hS.F hT9⟩) hS.2.2 d_Pl_clash_164
          · skip
            replace c_111 := sw_bn.mp c_111
            refine lv_aload_n hx hb d_Pl_clash_114 rfl (lv_at hl 4 rfl) ?_
            refine va_get (D := D) (ci := 1) (v := .ref pY) (C := R_Pl) (T := F_Pl) (N := 11) hx hb hw ku_Pl hown hK hP 0 rfl rfl 1 (by decide) (hw _ kw_c8115e4c) (fun _ h9 => h9) rfl d_Pl_clash_115 ?_
            refine lv_iload_n hx hb d_Pl_clash_118 rfl (lv_at hl 3 rfl) ?_
            refine lv_iload hx hb d_Pl_clash_119 (lv_at hl 2 rfl) ?_
            refine lv_iload hx hb d_Pl_clash_121 (lv_at hl 1 rfl) ?_
            refine lv_iload hx hb d_Pl_clash_123 (lv_at hl 0 rfl) ?_
            refine sw_ki0 (wr := [(p, .inr (1, [.ref pX, .ref pY, .ref pF, .ref pC, .ref pA, .ref pB, .ref pR, .ref pK, .int nv, .int ns, .int nw])), (pA, .inl (cI, 64, .inl fa)), (pB, .inl (cI, 64, .inl tb)), (pX, .inl (cI, 64, .inl vx))]) (va_runS (As := [.ref pY, .int (fa x.toNatClampNeg), .int (tb x.toNatClampNeg), .int (fa y.toNatClampNeg), .int (tb y.toNatClampNeg)]) (rest := []) ⟨hx, hb, hml, hown, hw⟩ (c_Pl_boxesMeet l D cI cL tq _ pY (fa x.toNatClampNeg) (tb x.toNatClampNeg) (fa y.toNatClampNeg) (tb y.toNatClampNeg) vy (by assumption) (by assumption) (by assumption) (by assumption)) (cwS 5 hw (sw_gS kw_9dfe1215 kw_a33295e2 kw_e4821dd4 kc_Pl_boxesMeet) rfl rfl rfl ⟨rfl, yd_Pl_boxesMeet⟩ ⟨Nat.le_of_ble_eq_true rfl, Nat.le_of_ble_eq_true rfl⟩) (sw_preS hK hP hD hS hA hG [1] rfl (by decide)) rfl rfl hl.1 rfl (lv_room (Nat.le_of_ble_eq_true rfl)) d_Pl_clash_125 ⟨Nat.le_of_ble_eq_true rfl, Nat.le_of_ble_eq_true rfl⟩) hP hD hS hA [1] [0, 2, 3, 4] rfl rfl (by decide) (by decide) (fun r_125 _ H locs hp_125 hP hD hS => ?_)
            replace hP : va_P D sw_cl [(p, .inr (1, [.ref pX, .ref pY, .ref pF, .ref pC, .ref pA, .ref pB, .ref pR, .ref pK, .int nv, .int ns, .int nw])), (pA, .inl (cI, 64, .inl fa)), (pB, .inl (cI, 64, .inl tb)), (pX, .inl (cI, 64, .inl vx)), (pY, .inl (cI, 64, .inl vy))] H := hP
            replace hD : va_D A [(p, .inr (1, [.ref pX, .ref pY, .ref pF, .ref pC, .ref pA, .ref pB, .ref pR, .ref pK, .int nv, .int ns, .int nw])), (pA, .inl (cI, 64, .inl fa)), (pB, .inl (cI, 64, .inl tb)), (pX, .inl (cI, 64, .inl vx)), (pY, .inl (cI, 64, .inl vy))] := hD
            try dsimp only at hp_125
            subst hp_125
            refine lv_if_eq (tgt := 163) hx hb d_Pl_clash_128 (by decide) (fun c_128 => ?_) (fun c_128 => ?_)
            · skip
              replace c_128 := sw_b0.mp c_128
              refine lv_iconst (v := 0) hx hb d_Pl_clash_163 (by decide) ?_
              have hP9 := hP.sub (ws' := [(p, .inr (1, [.ref pX, .ref pY, .ref pF, .ref pC, .ref pA, .ref pB, .ref pR, .ref pK, .int nv, .int ns, .int nw])), (pX, .inl (cI, 64, .inl vx)), (pY, .inl (cI, 64, .inl vy)), (pA, .inl (cI, 64, .inl fa)), (pB, .inl (cI, 64, .inl tb))]) [0, 3, 4, 1, 2] rfl
              have hD9 := hD.sub (ws' := [(p, .inr (1, [.ref pX, .ref pY, .ref pF, .ref pC, .ref pA, .ref pB, .ref pR, .ref pK, .int nv, .int ns, .int nw])), (pX, .inl (cI, 64, .inl vx)), (pY, .inl (cI, 64, .inl vy)), (pA, .inl (cI, 64, .inl fa)), (pB, .inl (cI, 64, .inl tb))]) [0, 3, 4, 1, 2] (by decide) rfl
              exact W.zret (ty := .boolean) (v := 0) hx hb hr (rfl) (fun T9 hT9 hW9 => ⟨⟨0, (), rfl, by simp [sw_b, sw_clash, sw_cl4, c_34, c_50, c_67, c_84, c_111, c_128], by rw [hT9]; exact hP9, hD9⟩, hS.F hT9⟩) hS.2.2 d_Pl_clash_164
            · skip
              replace c_128 := sw_bn.mp c_128
              refine lv_aload_n hx hb d_Pl_clash_131 rfl (lv_at hl 4 rfl) ?_
              refine lv_iload_n hx hb d_Pl_clash_132 rfl (lv_at hl 3 rfl) ?_
              refine lv_iload hx hb d_Pl_clash_133 (lv_at hl 2 rfl) ?_
              refine lv_iload hx hb d_Pl_clash_135 (lv_at hl 1 rfl) ?_
              refine lv_iload hx hb d_Pl_clash_137 (lv_at hl 0 rfl) ?_
              refine sw_ki0 (wr := [(pA, .inl (cI, 64, .inl fa)), (pB, .inl (cI, 64, .inl tb))]) (va_runV (As := [.int (fa x.toNatClampNeg), .int (tb x.toNatClampNeg), .int (fa y.toNatClampNeg), .int (tb y.toNatClampNeg)]) (rest := []) ⟨hx, hb, hml, hown, hw⟩ (c_Pl_straddles l D cI cL tq _ p (fa x.toNatClampNeg) (tb x.toNatClampNeg) (fa y.toNatClampNeg) (tb y.toNatClampNeg) pX pY pF pC pA pB pR pK nv ns nw vx vy (by assumption) (by assumption) (by assumption) (by assumption)) (cwV 4 hw (sw_gV kw_720b3d8f kw_861dd4fe kw_3dad9645 kw_e4821dd4 kc_Pl_straddles) rfl rfl rfl ⟨rfl, yd_Pl_straddles⟩ ⟨Nat.le_of_ble_eq_true rfl, Nat.le_of_ble_eq_true rfl⟩) (sw_preV hK hP hD hS hA hG [0, 3, 4] rfl (by decide) 1 0 rfl rfl) rfl rfl hl.1 rfl (lv_room (Nat.le_of_ble_eq_true rfl)) d_Pl_clash_139 ⟨Nat.le_of_ble_eq_true rfl, Nat.le_of_ble_eq_true rfl⟩) hP hD hS hA [0, 3, 4] [1, 2] rfl rfl (by decide) (by decide) (fun r_139 _ H locs hp_139 hP hD hS => ?_)
              replace hP : va_P D sw_cl [(pA, .inl (cI, 64, .inl fa)), (pB, .inl (cI, 64, .inl tb)), (p, .inr (1, [.ref pX, .ref pY, .ref pF, .ref pC, .ref pA, .ref pB, .ref pR, .ref pK, .int nv, .int ns, .int nw])), (pX, .inl (cI, 64, .inl vx)), (pY, .inl (cI, 64, .inl vy))] H := hP
              replace hD : va_D A [(pA, .inl (cI, 64, .inl fa)), (pB, .inl (cI, 64, .inl tb)), (p, .inr (1, [.ref pX, .ref pY, .ref pF, .ref pC, .ref pA, .ref pB, .ref pR, .ref pK, .int nv, .int ns, .int nw])), (pX, .inl (cI, 64, .inl vx)), (pY, .inl (cI, 64, .inl vy))] := hD
              try dsimp only at hp_139
              subst hp_139
              refine lv_if_eq (tgt := 163) hx hb d_Pl_clash_142 (by decide) (fun c_142 => ?_) (fun c_142 => ?_)
              · skip
                replace c_142 := sw_b0.mp c_142
                refine lv_iconst (v := 0) hx hb d_Pl_clash_163 (by decide) ?_
                have hP9 := hP.sub (ws' := [(p, .inr (1, [.ref pX, .ref pY, .ref pF, .ref pC, .ref pA, .ref pB, .ref pR, .ref pK, .int nv, .int ns, .int nw])), (pX, .inl (cI, 64, .inl vx)), (pY, .inl (cI, 64, .inl vy)), (pA, .inl (cI, 64, .inl fa)), (pB, .inl (cI, 64, .inl tb))]) [2, 3, 4, 0, 1] rfl
                have hD9 := hD.sub (ws' := [(p, .inr (1, [.ref pX, .ref pY, .ref pF, .ref pC, .ref pA, .ref pB, .ref pR, .ref pK, .int nv, .int ns, .int nw])), (pX, .inl (cI, 64, .inl vx)), (pY, .inl (cI, 64, .inl vy)), (pA, .inl (cI, 64, .inl fa)), (pB, .inl (cI, 64, .inl tb))]) [2, 3, 4, 0, 1] (by decide) rfl
                exact W.zret (ty := .boolean) (v := 0) hx hb hr (rfl) (fun T9 hT9 hW9 => ⟨⟨0, (), rfl, by simp [sw_b, sw_clash, sw_cl4, c_34, c_50, c_67, c_84, c_111, c_128, c_142], by rw [hT9]; exact hP9, hD9⟩, hS.F hT9⟩) hS.2.2 d_Pl_clash_164
              · skip
                replace c_142 := sw_bn.mp c_142
                refine lv_aload_n hx hb d_Pl_clash_145 rfl (lv_at hl 4 rfl) ?_
                refine lv_iload hx hb d_Pl_clash_146 (lv_at hl 1 rfl) ?_
                refine lv_iload hx hb d_Pl_clash_148 (lv_at hl 0 rfl) ?_
                refine lv_iload_n hx hb d_Pl_clash_150 rfl (lv_at hl 3 rfl) ?_
                refine lv_iload hx hb d_Pl_clash_151 (lv_at hl 2 rfl) ?_
                refine sw_ki0 (wr := [(pA, .inl (cI, 64, .inl fa)), (pB, .inl (cI, 64, .inl tb))]) (va_runV (As := [.int (fa y.toNatClampNeg), .int (tb y.toNatClampNeg), .int (fa x.toNatClampNeg), .int (tb x.toNatClampNeg)]) (rest := []) ⟨hx, hb, hml, hown, hw⟩ (c_Pl_straddles l D cI cL tq _ p (fa y.toNatClampNeg) (tb y.toNatClampNeg) (fa x.toNatClampNeg) (tb x.toNatClampNeg) pX pY pF pC pA pB pR pK nv ns nw vx vy (by assumption) (by assumption) (by assumption) (by assumption)) (cwV 4 hw (sw_gV kw_720b3d8f kw_861dd4fe kw_3dad9645 kw_e4821dd4 kc_Pl_straddles) rfl rfl rfl ⟨rfl, yd_Pl_straddles⟩ ⟨Nat.le_of_ble_eq_true rfl, Nat.le_of_ble_eq_true rfl⟩) (sw_preV hK hP hD hS hA hG [2, 3, 4] rfl (by decide) 1 2 rfl rfl) rfl rfl hl.1 rfl (lv_room (Nat.le_of_ble_eq_true rfl)) d_Pl_clash_153 ⟨Nat.le_of_ble_eq_true rfl, Nat.le_of_ble_eq_true rfl⟩) hP hD hS hA [2, 3, 4] [0, 1] rfl rfl (by decide) (by decide) (fun r_153 _ H locs hp_153 hP hD hS => ?_)
                replace hP : va_P D sw_cl [(pA, .inl (cI, 64, .inl fa)), (pB, .inl (cI, 64, .inl tb)), (p, .inr (1, [.ref pX, .ref pY, .ref pF, .ref pC, .ref pA, .ref pB, .ref pR, .ref pK, .int nv, .int ns, .int nw])), (pX, .inl (cI, 64, .inl vx)), (pY, .inl (cI, 64, .inl vy))] H := hP
                replace hD : va_D A [(pA, .inl (cI, 64, .inl fa)), (pB, .inl (cI, 64, .inl tb)), (p, .inr (1, [.ref pX, .ref pY, .ref pF, .ref pC, .ref pA, .ref pB, .ref pR, .ref pK, .int nv, .int ns, .int nw])), (pX, .inl (cI, 64, .inl vx)), (pY, .inl (cI, 64, .inl vy))] := hD
                try dsimp only at hp_153
                subst hp_153
                refine lv_if_eq (tgt := 163) hx hb d_Pl_clash_156 (by decide) (fun c_156 => ?_) (fun c_156 => ?_)
                · skip
                  replace c_156 := sw_b0.mp c_156
                  refine lv_iconst (v := 0) hx hb d_Pl_clash_163 (by decide) ?_
                  have hP9 := hP.sub (ws' := [(p, .inr (1, [.ref pX, .ref pY, .ref pF, .ref pC, .ref pA, .ref pB, .ref pR, .ref pK, .int nv, .int ns, .int nw])), (pX, .inl (cI, 64, .inl vx)), (pY, .inl (cI, 64, .inl vy)), (pA, .inl (cI, 64, .inl fa)), (pB, .inl (cI, 64, .inl tb))]) [2, 3, 4, 0, 1] rfl
                  have hD9 := hD.sub (ws' := [(p, .inr (1, [.ref pX, .ref pY, .ref pF, .ref pC, .ref pA, .ref pB, .ref pR, .ref pK, .int nv, .int ns, .int nw])), (pX, .inl (cI, 64, .inl vx)), (pY, .inl (cI, 64, .inl vy)), (pA, .inl (cI, 64, .inl fa)), (pB, .inl (cI, 64, .inl tb))]) [2, 3, 4, 0, 1] (by decide) rfl
                  exact W.zret (ty := .boolean) (v := 0) hx hb hr (rfl) (fun T9 hT9 hW9 => ⟨⟨0, (), rfl, by simp [sw_b, sw_clash, sw_cl4, c_34, c_50, c_67, c_84, c_111, c_128, c_142, c_156], by rw [hT9]; exact hP9, hD9⟩, hS.F hT9⟩) hS.2.2 d_Pl_clash_164
                · skip
                  replace c_156 := sw_bn.mp c_156
                  refine lv_iconst (v := 1) hx hb d_Pl_clash_159 (by decide) ?_
                  refine lv_goto (tgt := 164) hx hb d_Pl_clash_160 (by decide) ?_
                  have hP9 := hP.sub (ws' := [(p, .inr (1, [.ref pX, .ref pY, .ref pF, .ref pC, .ref pA, .ref pB, .ref pR, .ref pK, .int nv, .int ns, .int nw])), (pX, .inl (cI, 64, .inl vx)), (pY, .inl (cI, 64, .inl vy)), (pA, .inl (cI, 64, .inl fa)), (pB, .inl (cI, 64, .inl tb))]) [2, 3, 4, 0, 1] rfl
                  have hD9 := hD.sub (ws' := [(p, .inr (1, [.ref pX, .ref pY, .ref pF, .ref pC, .ref pA, .ref pB, .ref pR, .ref pK, .int nv, .int ns, .int nw])), (pX, .inl (cI, 64, .inl vx)), (pY, .inl (cI, 64, .inl vy)), (pA, .inl (cI, 64, .inl fa)), (pB, .inl (cI, 64, .inl tb))]) [2, 3, 4, 0, 1] (by decide) rfl
                  exact W.zret (ty := .boolean) (v := 1) hx hb hr (rfl) (fun T9 hT9 hW9 => ⟨⟨1, (), rfl, by simp [sw_b, sw_clash, sw_cl4, c_34, c_50, c_67, c_84, c_111, c_128, c_142, c_156], by rw [hT9]; exact hP9, hD9⟩, hS.F hT9⟩) hS.2.2 d_Pl_clash_164
        · skip
          refine lv_aload_n hx hb d_Pl_clash_87 rfl (lv_at hl 4 rfl) ?_
          refine lv_iload hx hb d_Pl_clash_88 (lv_at hl 2 rfl) ?_
          refine lv_iload_n hx hb d_Pl_clash_90 rfl (lv_at hl 3 rfl) ?_
          refine lv_iload hx hb d_Pl_clash_91 (lv_at hl 1 rfl) ?_
          refine sw_ki0 (wr := [(pA, .inl (cI, 64, .inl fa)), (pB, .inl (cI, 64, .inl tb))]) (va_runV (As := [.int (tb x.toNatClampNeg), .int (fa x.toNatClampNeg), .int (fa y.toNatClampNeg)]) (rest := []) ⟨hx, hb, hml, hown, hw⟩ (c_Pl_leaveAlike l D cI cL tq _ p (tb x.toNatClampNeg) (fa x.toNatClampNeg) (fa y.toNatClampNeg) pX pY pF pC pA pB pR pK nv ns nw vx vy (by assumption) (by assumption) (by assumption)) (cwV 3 hw (sw_gV kw_4d22c011 kw_c176b2a6 kw_90b65df4 kw_e4821dd4 kc_Pl_leaveAlike) rfl rfl rfl ⟨rfl, yd_Pl_leaveAlike⟩ ⟨Nat.le_of_ble_eq_true rfl, Nat.le_of_ble_eq_true rfl⟩) (sw_preV hK hP hD hS hA hG [0, 1, 2] rfl (by decide) 1 0 rfl rfl) rfl rfl hl.1 rfl (lv_room (Nat.le_of_ble_eq_true rfl)) d_Pl_clash_93 ⟨Nat.le_of_ble_eq_true rfl, Nat.le_of_ble_eq_true rfl⟩) hP hD hS hA [0, 1, 2] [3, 4] rfl rfl (by decide) (by decide) (fun r_93 _ H locs hp_93 hP hD hS => ?_)
          replace hP : va_P D sw_cl [(pA, .inl (cI, 64, .inl fa)), (pB, .inl (cI, 64, .inl tb)), (p, .inr (1, [.ref pX, .ref pY, .ref pF, .ref pC, .ref pA, .ref pB, .ref pR, .ref pK, .int nv, .int ns, .int nw])), (pX, .inl (cI, 64, .inl vx)), (pY, .inl (cI, 64, .inl vy))] H := hP
          replace hD : va_D A [(pA, .inl (cI, 64, .inl fa)), (pB, .inl (cI, 64, .inl tb)), (p, .inr (1, [.ref pX, .ref pY, .ref pF, .ref pC, .ref pA, .ref pB, .ref pR, .ref pK, .int nv, .int ns, .int nw])), (pX, .inl (cI, 64, .inl vx)), (pY, .inl (cI, 64, .inl vy))] := hD
          try dsimp only at hp_93
          subst hp_93
          have hP9 := hP.sub (ws' := [(p, .inr (1, [.ref pX, .ref pY, .ref pF, .ref pC, .ref pA, .ref pB, .ref pR, .ref pK, .int nv, .int ns, .int nw])), (pX, .inl (cI, 64, .inl vx)), (pY, .inl (cI, 64, .inl vy)), (pA, .inl (cI, 64, .inl fa)), (pB, .inl (cI, 64, .inl tb))]) [2, 3, 4, 0, 1] rfl
          have hD9 := hD.sub (ws' := [(p, .inr (1, [.ref pX, .ref pY, .ref pF, .ref pC, .ref pA, .ref pB, .ref pR, .ref pK, .int nv, .int ns, .int nw])), (pX, .inl (cI, 64, .inl vx)), (pY, .inl (cI, 64, .inl vy)), (pA, .inl (cI, 64, .inl fa)), (pB, .inl (cI, 64, .inl tb))]) [2, 3, 4, 0, 1] (by decide) rfl
          exact W.zret (ty := .boolean) (v := sw_b (sw_la vx vy (tb x.toNatClampNeg).toNatClampNeg (fa x.toNatClampNeg).toNatClampNeg (fa y.toNatClampNeg).toNatClampNeg)) hx hb hr (sw_bnar _) (fun T9 hT9 hW9 => ⟨⟨sw_b (sw_la vx vy (tb x.toNatClampNeg).toNatClampNeg (fa x.toNatClampNeg).toNatClampNeg (fa y.toNatClampNeg).toNatClampNeg), (), rfl, by unfold sw_clash sw_cl4; rw [if_neg c_34, if_neg c_50, if_neg c_67, if_pos c_84], by rw [hT9]; exact hP9, hD9⟩, hS.F hT9⟩) hS.2.2 d_Pl_clash_96
      · skip
        refine lv_aload_n hx hb d_Pl_clash_70 rfl (lv_at hl 4 rfl) ?_
        refine lv_iload hx hb d_Pl_clash_71 (lv_at hl 2 rfl) ?_
        refine lv_iload_n hx hb d_Pl_clash_73 rfl (lv_at hl 3 rfl) ?_
        refine lv_iload hx hb d_Pl_clash_74 (lv_at hl 0 rfl) ?_
        refine sw_ki0 (wr := [(pA, .inl (cI, 64, .inl fa)), (pB, .inl (cI, 64, .inl tb))]) (va_runV (As := [.int (tb x.toNatClampNeg), .int (fa x.toNatClampNeg), .int (tb y.toNatClampNeg)]) (rest := []) ⟨hx, hb, hml, hown, hw⟩ (c_Pl_leaveAlike l D cI cL tq _ p (tb x.toNatClampNeg) (fa x.toNatClampNeg) (tb y.toNatClampNeg) pX pY pF pC pA pB pR pK nv ns nw vx vy (by assumption) (by assumption) (by assumption)) (cwV 3 hw (sw_gV kw_4d22c011 kw_c176b2a6 kw_90b65df4 kw_e4821dd4 kc_Pl_leaveAlike) rfl rfl rfl ⟨rfl, yd_Pl_leaveAlike⟩ ⟨Nat.le_of_ble_eq_true rfl, Nat.le_of_ble_eq_true rfl⟩) (sw_preV hK hP hD hS hA hG [0, 1, 2] rfl (by decide) 1 0 rfl rfl) rfl rfl hl.1 rfl (lv_room (Nat.le_of_ble_eq_true rfl)) d_Pl_clash_76 ⟨Nat.le_of_ble_eq_true rfl, Nat.le_of_ble_eq_true rfl⟩) hP hD hS hA [0, 1, 2] [3, 4] rfl rfl (by decide) (by decide) (fun r_76 _ H locs hp_76 hP hD hS => ?_)
        replace hP : va_P D sw_cl [(pA, .inl (cI, 64, .inl fa)), (pB, .inl (cI, 64, .inl tb)), (p, .inr (1, [.ref pX, .ref pY, .ref pF, .ref pC, .ref pA, .ref pB, .ref pR, .ref pK, .int nv, .int ns, .int nw])), (pX, .inl (cI, 64, .inl vx)), (pY, .inl (cI, 64, .inl vy))] H := hP
        replace hD : va_D A [(pA, .inl (cI, 64, .inl fa)), (pB, .inl (cI, 64, .inl tb)), (p, .inr (1, [.ref pX, .ref pY, .ref pF, .ref pC, .ref pA, .ref pB, .ref pR, .ref pK, .int nv, .int ns, .int nw])), (pX, .inl (cI, 64, .inl vx)), (pY, .inl (cI, 64, .inl vy))] := hD
        try dsimp only at hp_76
        subst hp_76
        have hP9 := hP.sub (ws' := [(p, .inr (1, [.ref pX, .ref pY, .ref pF, .ref pC, .ref pA, .ref pB, .ref pR, .ref pK, .int nv, .int ns, .int nw])), (pX, .inl (cI, 64, .inl vx)), (pY, .inl (cI, 64, .inl vy)), (pA, .inl (cI, 64, .inl fa)), (pB, .inl (cI, 64, .inl tb))]) [2, 3, 4, 0, 1] rfl
        have hD9 := hD.sub (ws' := [(p, .inr (1, [.ref pX, .ref pY, .ref pF, .ref pC, .ref pA, .ref pB, .ref pR, .ref pK, .int nv, .int ns, .int nw])), (pX, .inl (cI, 64, .inl vx)), (pY, .inl (cI, 64, .inl vy)), (pA, .inl (cI, 64, .inl fa)), (pB, .inl (cI, 64, .inl tb))]) [2, 3, 4, 0, 1] (by decide) rfl
        exact W.zret (ty := .boolean) (v := sw_b (sw_la vx vy (tb x.toNatClampNeg).toNatClampNeg (fa x.toNatClampNeg).toNatClampNeg (tb y.toNatClampNeg).toNatClampNeg)) hx hb hr (sw_bnar _) (fun T9 hT9 hW9 => ⟨⟨sw_b (sw_la vx vy (tb x.toNatClampNeg).toNatClampNeg (fa x.toNatClampNeg).toNatClampNeg (tb y.toNatClampNeg).toNatClampNeg), (), rfl, by unfold sw_clash sw_cl4; rw [if_neg c_34, if_neg c_50, if_pos c_67], by rw [hT9]; exact hP9, hD9⟩, hS.F hT9⟩) hS.2.2 d_Pl_clash_79
    · skip
      refine lv_aload_n hx hb d_Pl_clash_53 rfl (lv_at hl 4 rfl) ?_
      refine lv_iload_n hx hb d_Pl_clash_54 rfl (lv_at hl 3 rfl) ?_
      refine lv_iload hx hb d_Pl_clash_55 (lv_at hl 2 rfl) ?_
      refine lv_iload hx hb d_Pl_clash_57 (lv_at hl 1 rfl) ?_
      refine sw_ki0 (wr := [(pA, .inl (cI, 64, .inl fa)), (pB, .inl (cI, 64, .inl tb))]) (va_runV (As := [.int (fa x.toNatClampNeg), .int (tb x.toNatClampNeg), .int (fa y.toNatClampNeg)]) (rest := []) ⟨hx, hb, hml, hown, hw⟩ (c_Pl_leaveAlike l D cI cL tq _ p (fa x.toNatClampNeg) (tb x.toNatClampNeg) (fa y.toNatClampNeg) pX pY pF pC pA pB pR pK nv ns nw vx vy (by assumption) (by assumption) (by assumption)) (cwV 3 hw (sw_gV kw_4d22c011 kw_c176b2a6 kw_90b65df4 kw_e4821dd4 kc_Pl_leaveAlike) rfl rfl rfl ⟨rfl, yd_Pl_leaveAlike⟩ ⟨Nat.le_of_ble_eq_true rfl, Nat.le_of_ble_eq_true rfl⟩) (sw_preV hK hP hD hS hA hG [0, 1, 2] rfl (by decide) 1 0 rfl rfl) rfl rfl hl.1 rfl (lv_room (Nat.le_of_ble_eq_true rfl)) d_Pl_clash_59 ⟨Nat.le_of_ble_eq_true rfl, Nat.le_of_ble_eq_true rfl⟩) hP hD hS hA [0, 1, 2] [3, 4] rfl rfl (by decide) (by decide) (fun r_59 _ H locs hp_59 hP hD hS => ?_)
      replace hP : va_P D sw_cl [(pA, .inl (cI, 64, .inl fa)), (pB, .inl (cI, 64, .inl tb)), (p, .inr (1, [.ref pX, .ref pY, .ref pF, .ref pC, .ref pA, .ref pB, .ref pR, .ref pK, .int nv, .int ns, .int nw])), (pX, .inl (cI, 64, .inl vx)), (pY, .inl (cI, 64, .inl vy))] H := hP
      replace hD : va_D A [(pA, .inl (cI, 64, .inl fa)), (pB, .inl (cI, 64, .inl tb)), (p, .inr (1, [.ref pX, .ref pY, .ref pF, .ref pC, .ref pA, .ref pB, .ref pR, .ref pK, .int nv, .int ns, .int nw])), (pX, .inl (cI, 64, .inl vx)), (pY, .inl (cI, 64, .inl vy))] := hD
      try dsimp only at hp_59
      subst hp_59
      have hP9 := hP.sub (ws' := [(p, .inr (1, [.ref pX, .ref pY, .ref pF, .ref pC, .ref pA, .ref pB, .ref pR, .ref pK, .int nv, .int ns, .int nw])), (pX, .inl (cI, 64, .inl vx)), (pY, .inl (cI, 64, .inl vy)), (pA, .inl (cI, 64, .inl fa)), (pB, .inl (cI, 64, .inl tb))]) [2, 3, 4, 0, 1] rfl
      have hD9 := hD.sub (ws' := [(p, .inr (1, [.ref pX, .ref pY, .ref pF, .ref pC, .ref pA, .ref pB, .ref pR, .ref pK, .int nv, .int ns, .int nw])), (pX, .inl (cI, 64, .inl vx)), (pY, .inl (cI, 64, .inl vy)), (pA, .inl (cI, 64, .inl fa)), (pB, .inl (cI, 64, .inl tb))]) [2, 3, 4, 0, 1] (by decide) rfl
      exact W.zret (ty := .boolean) (v := sw_b (sw_la vx vy (fa x.toNatClampNeg).toNatClampNeg (tb x.toNatClampNeg).toNatClampNeg (fa y.toNatClampNeg).toNatClampNeg)) hx hb hr (sw_bnar _) (fun T9 hT9 hW9 => ⟨⟨sw_b (sw_la vx vy (fa x.toNatClampNeg).toNatClampNeg (tb x.toNatClampNeg).toNatClampNeg (fa y.toNatClampNeg).toNatClampNeg), (), rfl, by unfold sw_clash sw_cl4; rw [if_neg c_34, if_pos c_50], by rw [hT9]; exact hP9, hD9⟩, hS.F hT9⟩) hS.2.2 d_Pl_clash_62
  · skip
    refine lv_aload_n hx hb d_Pl_clash_37 rfl (lv_at hl 4 rfl) ?_
    refine lv_iload_n hx hb d_Pl_clash_38 rfl (lv_at hl 3 rfl) ?_
    refine lv_iload hx hb d_Pl_clash_39 (lv_at hl 2 rfl) ?_
    refine lv_iload hx hb d_Pl_clash_41 (lv_at hl 0 rfl) ?_
    refine sw_ki0 (wr := [(pA, .inl (cI, 64, .inl fa)), (pB, .inl (cI, 64, .inl tb))]) (va_runV (As := [.int (fa x.toNatClampNeg), .int (tb x.toNatClampNeg), .int (tb y.toNatClampNeg)]) (rest := []) ⟨hx, hb, hml, hown, hw⟩ (c_Pl_leaveAlike l D cI cL tq _ p (fa x.toNatClampNeg) (tb x.toNatClampNeg) (tb y.toNatClampNeg) pX pY pF pC pA pB pR pK nv ns nw vx vy (by assumption) (by assumption) (by assumption)) (cwV 3 hw (sw_gV kw_4d22c011 kw_c176b2a6 kw_90b65df4 kw_e4821dd4 kc_Pl_leaveAlike) rfl rfl rfl ⟨rfl, yd_Pl_leaveAlike⟩ ⟨Nat.le_of_ble_eq_true rfl, Nat.le_of_ble_eq_true rfl⟩) (sw_preV hK hP hD hS hA hG [0, 1, 2] rfl (by decide) 1 0 rfl rfl) rfl rfl hl.1 rfl (lv_room (Nat.le_of_ble_eq_true rfl)) d_Pl_clash_43 ⟨Nat.le_of_ble_eq_true rfl, Nat.le_of_ble_eq_true rfl⟩) hP hD hS hA [0, 1, 2] [3, 4] rfl rfl (by decide) (by decide) (fun r_43 _ H locs hp_43 hP hD hS => ?_)
    replace hP : va_P D sw_cl [(pA, .inl (cI, 64, .inl fa)), (pB, .inl (cI, 64, .inl tb)), (p, .inr (1, [.ref pX, .ref pY, .ref pF, .ref pC, .ref pA, .ref pB, .ref pR, .ref pK, .int nv, .int ns, .int nw])), (pX, .inl (cI, 64, .inl vx)), (pY, .inl (cI, 64, .inl vy))] H := hP
    replace hD : va_D A [(pA, .inl (cI, 64, .inl fa)), (pB, .inl (cI, 64, .inl tb)), (p, .inr (1, [.ref pX, .ref pY, .ref pF, .ref pC, .ref pA, .ref pB, .ref pR, .ref pK, .int nv, .int ns, .int nw])), (pX, .inl (cI, 64, .inl vx)), (pY, .inl (cI, 64, .inl vy))] := hD
    try dsimp only at hp_43
    subst hp_43
    have hP9 := hP.sub (ws' := [(p, .inr (1, [.ref pX, .ref pY, .ref pF, .ref pC, .ref pA, .ref pB, .ref pR, .ref pK, .int nv, .int ns, .int nw])), (pX, .inl (cI, 64, .inl vx)), (pY, .inl (cI, 64, .inl vy)), (pA, .inl (cI, 64, .inl fa)), (pB, .inl (cI, 64, .inl tb))]) [2, 3, 4, 0, 1] rfl
    have hD9 := hD.sub (ws' := [(p, .inr (1, [.ref pX, .ref pY, .ref pF, .ref pC, .ref pA, .ref pB, .ref pR, .ref pK, .int nv, .int ns, .int nw])), (pX, .inl (cI, 64, .inl vx)), (pY, .inl (cI, 64, .inl vy)), (pA, .inl (cI, 64, .inl fa)), (pB, .inl (cI, 64, .inl tb))]) [2, 3, 4, 0, 1] (by decide) rfl
    exact W.zret (ty := .boolean) (v := sw_b (sw_la vx vy (fa x.toNatClampNeg).toNatClampNeg (tb x.toNatClampNeg).toNatClampNeg (tb y.toNatClampNeg).toNatClampNeg)) hx hb hr (sw_bnar _) (fun T9 hT9 hW9 => ⟨⟨sw_b (sw_la vx vy (fa x.toNatClampNeg).toNatClampNeg (tb x.toNatClampNeg).toNatClampNeg (tb y.toNatClampNeg).toNatClampNeg), (), rfl, by unfold sw_clash sw_cl4; rw [if_pos c_34], by rw [hT9]; exact hP9, hD9⟩, hS.F hT9⟩) hS.2.2 d_Pl_clash_46

abbrev rm_Pl_firstWrongWall : Room := { frames := 4, cells := 0, slots := 0, locals := 98 }
abbrev q_Pl_firstWrongWall (D : va_G) (cI cL : ClassId) (A : Nat → Prop) (p : Nat) (pX : Nat) (pY : Nat) (pF : Nat) (pC : Nat) (pA : Nat) (pB : Nat) (pR : Nat) (pK : Nat) (nv : Int32) (ns : Int32) (nw : Int32) (vx : Nat → Int32) (vy : Nat → Int32) (fa : Nat → Int32) (tb : Nat → Int32) : Array Value → State → Outcome → State → Prop := va_Qi (S := Unit) (fun (r : Int32) => fun (_ : Unit) => sw_fw (sw_clash vx vy fa tb) nw.toNatClampNeg r) (sw_R D A (fun (_ : Unit) => [(p, .inr (1, [.ref pX, .ref pY, .ref pF, .ref pC, .ref pA, .ref pB, .ref pR, .ref pK, .int nv, .int ns, .int nw])), (pX, .inl (cI, 64, .inl vx)), (pY, .inl (cI, 64, .inl vy)), (pA, .inl (cI, 64, .inl fa)), (pB, .inl (cI, 64, .inl tb))])) A
set_option maxHeartbeats 4000000 in
set_option maxRecDepth 100000 in
theorem c_Pl_firstWrongWall (l : Launch) (D : va_G) (cI cL : ClassId) (tq sz : Nat) (p : Nat) (pX : Nat) (pY : Nat) (pF : Nat) (pC : Nat) (pA : Nat) (pB : Nat) (pR : Nat) (pK : Nat) (nv : Int32) (ns : Int32) (nw : Int32) (vx : Nat → Int32) (vy : Nat → Int32) (fa : Nat → Int32) (tb : Nat → Int32) (hn : sw_ok nw 64) (hv : ∀ j : Nat, j < nw.toNatClampNeg → vp_in (fa j) 64 ∧ vp_in (tb j) 64) : Met l y_Pl_firstWrongWall w_Pl_firstWrongWall rm_Pl_firstWrongWall (va_Pc [.ref p] (sw_B D cI cL tq sz [(p, .inr (1, [.ref pX, .ref pY, .ref pF, .ref pC, .ref pA, .ref pB, .ref pR, .ref pK, .int nv, .int ns, .int nw])), (pX, .inl (cI, 64, .inl vx)), (pY, .inl (cI, 64, .inl vy)), (pA, .inl (cI, 64, .inl fa)), (pB, .inl (cI, 64, .inl tb))])) (q_Pl_firstWrongWall D cI cL (va_A [(p, .inr (1, [.ref pX, .ref pY, .ref pF, .ref pC, .ref pA, .ref pB, .ref pR, .ref pK, .int nv, .int ns, .int nw])), (pX, .inl (cI, 64, .inl vx)), (pY, .inl (cI, 64, .inl vy)), (pA, .inl (cI, 64, .inl fa)), (pB, .inl (cI, 64, .inl tb))] sz) p pX pY pF pC pA pB pR pK nv ns nw vx vy fa tb) 0 0 (va_A [(p, .inr (1, [.ref pX, .ref pY, .ref pF, .ref pC, .ref pA, .ref pB, .ref pR, .ref pK, .int nv, .int ns, .int nw])), (pX, .inl (cI, 64, .inl vx)), (pY, .inl (cI, 64, .inl vy)), (pA, .inl (cI, 64, .inl fa)), (pB, .inl (cI, 64, .inl tb))] sz) := by
  refine Met.ofW (cc := b_Pl_firstWrongWall) (maxL := 3) (ret := (some .int)) (by decide) rfl ?_
  intro mp me s mm args below meth mk s₁ B hml hv
  obtain ⟨rfl, hsz, hP, hK, hD0, hG⟩ := hv
  have hx := B.exec
  have hb := B.bytes
  have hr := B.returns
  have hts := atoms_spec (ws := w_Pl_firstWrongWall) B.pre
  have hw : ∀ w ∈ sw_words, w.before _ s = true := fun w h => hts w (List.mem_cons_of_mem _ h)
  have hown : s.vm.findClass R_Pl = some mm.cls := findClass_of_methodNamed B.named
  have hlocks := B.notSynchronized
  subst hsz
  have hD := hD0.self (sz := s.heap.size)
  generalize hAe : va_A [(p, .inr (1, [.ref pX, .ref pY, .ref pF, .ref pC, .ref pA, .ref pB, .ref pR, .ref pK, .int nv, .int ns, .int nw])), (pX, .inl (cI, 64, .inl vx)), (pY, .inl (cI, 64, .inl vy)), (pA, .inl (cI, 64, .inl fa)), (pB, .inl (cI, 64, .inl tb))] s.heap.size = A at hD hG ⊢
  have hA : ∀ q : Nat, s.heap.size ≤ q → A q := fun q h => by rw [← hAe]; exact Or.inr h
  have hS : va_S A s.heap s.heap [] := va_S.rf
  have hl := lv_entry ([.ref p]) (n := 3) (Nat.le_of_ble_eq_true rfl)
  rw [lg_entry_eq]
  generalize (lg_sl ([.ref p]) ++ List.replicate (3 - (lg_sl ([.ref p])).length) Slot.unset).toArray = ls at hl ⊢
  have hl : lv_has ls 3 [(0, .ref p)] := hl
  refine lv_iconst (v := 1) hx hb d_Pl_firstWrongWall_0 (by decide) ?_
  refine lv_istore_n (lv' := [(1, .int 1), (0, .ref p)]) hx hb d_Pl_firstWrongWall_1 rfl hl (by decide) rfl (fun ls hl => ?_)
  have lp_2 : ∀ (n : Nat) (k : Nat) (i : Int32) (H : Heap) (locs : List Loc) (ls : Array Slot), (i = nI k) → (1 ≤ k) → (k ≤ 64 + 1) → (∀ j : Nat, j < k → sw_hit (sw_clash vx vy fa tb) j j = false) → (65 - k) < n → va_P D sw_cl [(p, .inr (1, [.ref pX, .ref pY, .ref pF, .ref pC, .ref pA, .ref pB, .ref pR, .ref pK, .int nv, .int ns, .int nw])), (pX, .inl (cI, 64, .inl vx)), (pY, .inl (cI, 64, .inl vy)), (pA, .inl (cI, 64, .inl fa)), (pB, .inl (cI, 64, .inl tb))] H → va_D A [(p, .inr (1, [.ref pX, .ref pY, .ref pF, .ref pC, .ref pA, .ref pB, .ref pR, .ref pK, .int nv, .int ns, .int nw])), (pX, .inl (cI, 64, .inl vx)), (pY, .inl (cI, 64, .inl vy)), (pA, .inl (cI, 64, .inl fa)), (pB, .inl (cI, 64, .inl tb))] → va_S A s.heap H locs → lv_has ls 3 [(0, .ref p), (1, .int i)] → W mp l me (headSpec w_Pl_firstWrongWall rm_Pl_firstWrongWall).room s mm ([.ref p]).toArray below meth mk H locs 0 0 (MQ below (q_Pl_firstWrongWall D cI cL A p pX pY pF pC pA pB pR pK nv ns nw vx vy fa tb) ([.ref p]).toArray s 0 0 A) (F0 mm 2 ls []) := by
    intro n
    induction n with
    | zero => intro k i H locs ls hi hk1 hk ht hm; exact absurd hm (Nat.not_lt_zero _)
    | succ n ih_2 =>
      intro k i H locs ls hi hk1 hk ht hm hP hD hS hl
      refine lv_iload_n hx hb d_Pl_firstWrongWall_2 rfl (lv_at hl 1 rfl) ?_
      refine lv_aload_n hx hb d_Pl_firstWrongWall_3 rfl (lv_at hl 0 rfl) ?_
      refine va_get (D := D) (ci := 1) (v := .int nw) (C := R_Pl) (T := F_Pl) (N := 11) hx hb hw ku_Pl hown hK hP 0 rfl rfl 10 (by decide) (hw _ kw_733d4839) (fun _ h9 => h9) rfl d_Pl_firstWrongWall_4 ?_
      refine lv_icmp_ge (tgt := 40) hx hb d_Pl_firstWrongWall_7 (by decide) (fun c_7 => ?_) (fun c_7 => ?_)
      · skip
        refine lv_iconst (v := (-1)) hx hb d_Pl_firstWrongWall_40 (by decide) ?_
        have hP9 := hP.sub (ws' := [(p, .inr (1, [.ref pX, .ref pY, .ref pF, .ref pC, .ref pA, .ref pB, .ref pR, .ref pK, .int nv, .int ns, .int nw])), (pX, .inl (cI, 64, .inl vx)), (pY, .inl (cI, 64, .inl vy)), (pA, .inl (cI, 64, .inl fa)), (pB, .inl (cI, 64, .inl tb))]) [0, 1, 2, 3, 4] rfl
        have hD9 := hD.sub (ws' := [(p, .inr (1, [.ref pX, .ref pY, .ref pF, .ref pC, .ref pA, .ref pB, .ref pR, .ref pK, .int nv, .int ns, .int nw])), (pX, .inl (cI, 64, .inl vx)), (pY, .inl (cI, 64, .inl vy)), (pA, .inl (cI, 64, .inl fa)), (pB, .inl (cI, 64, .inl tb))]) [0, 1, 2, 3, 4] (by decide) rfl
        exact W.iret (v := (-1)) hx hb hr (fun T9 hT9 hW9 => ⟨⟨(-1), (), rfl, by exact Or.inl ⟨rfl, fun z hz => ht z (Nat.lt_of_lt_of_le hz (sw_end2 hn (by decide) hi (by omega) c_7))⟩, by rw [hT9]; exact hP9, hD9⟩, hS.F hT9⟩) hS.2.2 d_Pl_firstWrongWall_41
      · skip
        have hn6 := hn.2
        have hkn : k < nw.toNatClampNeg := sw_nlt hn (by decide) hi (by omega) c_7
        refine lv_iconst (v := 0) hx hb d_Pl_firstWrongWall_10 (by decide) ?_
        refine lv_istore_n (lv' := [(2, .int 0), (0, .ref p), (1, .int i)]) hx hb d_Pl_firstWrongWall_11 rfl hl (by decide) rfl (fun ls hl => ?_)
        have lp_12 : ∀ (n : Nat) (q : Nat) (j : Int32) (H : Heap) (locs : List Loc) (ls : Array Slot), (j = nI q) → (q ≤ k) → (sw_hit (sw_clash vx vy fa tb) k q = false) → (k - q) < n → va_P D sw_cl [(p, .inr (1, [.ref pX, .ref pY, .ref pF, .ref pC, .ref pA, .ref pB, .ref pR, .ref pK, .int nv, .int ns, .int nw])), (pX, .inl (cI, 64, .inl vx)), (pY, .inl (cI, 64, .inl vy)), (pA, .inl (cI, 64, .inl fa)), (pB, .inl (cI, 64, .inl tb))] H → va_D A [(p, .inr (1, [.ref pX, .ref pY, .ref pF, .ref pC, .ref pA, .ref pB, .ref pR, .ref pK, .int nv, .int ns, .int nw])), (pX, .inl (cI, 64, .inl vx)), (pY, .inl (cI, 64, .inl vy)), (pA, .inl (cI, 64, .inl fa)), (pB, .inl (cI, 64, .inl tb))] → va_S A s.heap H locs → lv_has ls 3 [(0, .ref p), (1, .int i), (2, .int j)] → W mp l me (headSpec w_Pl_firstWrongWall rm_Pl_firstWrongWall).room s mm ([.ref p]).toArray below meth mk H locs 0 0 (MQ below (q_Pl_firstWrongWall D cI cL A p pX pY pF pC pA pB pR pK nv ns nw vx vy fa tb) ([.ref p]).toArray s 0 0 A) (F0 mm 12 ls []) := by
          intro n
          induction n with
          | zero => intro q j H locs ls hq hqk hz hm; exact absurd hm (Nat.not_lt_zero _)
          | succ n ih_12 =>
            intro q j H locs ls hq hqk hz hm hP hD hS hl
            refine lv_iload_n hx hb d_Pl_firstWrongWall_12 rfl (lv_at hl 2 rfl) ?_
            refine lv_iload_n hx hb d_Pl_firstWrongWall_13 rfl (lv_at hl 1 rfl) ?_
            refine lv_icmp_ge (tgt := 34) hx hb d_Pl_firstWrongWall_14 (by decide) (fun c_14 => ?_) (fun c_14 => ?_)
            · skip
              refine lv_iinc (v := i + 1) (lv' := [(1, .int (i + 1)), (0, .ref p), (2, .int j)]) hx hb d_Pl_firstWrongWall_34 hl (k := 1) rfl rfl (by decide) rfl (fun ls hl => ?_)
              refine lv_goto (tgt := 2) hx hb d_Pl_firstWrongWall_37 (by decide) ?_
              exact ih_2 (k + 1) (i + 1) _ _ _ (by rw [hi]; exact nI_1 k) (by omega) (by omega) (sw_hit_s ht (by have e9 := sw_ege hi hq (by omega) (by omega) c_14 hqk; rw [← e9] at hz; exact hz)) (by omega) (hP.sub [0, 1, 2, 3, 4] rfl) (hD.sub [0, 1, 2, 3, 4] (by decide) rfl) hS (lv_sub hl [1, 0] rfl)
            · skip
              have hqk2 : q < k := sw_egt hi hq (by omega) (by omega) c_14
              have hki : i.toNatClampNeg = k := by rw [hi]; exact nI_clamp (by omega)
              have hqi : j.toNatClampNeg = q := by rw [hq]; exact nI_clamp (by omega)
              refine lv_aload_n hx hb d_Pl_firstWrongWall_17 rfl (lv_at hl 0 rfl) ?_
              refine lv_iload_n hx hb d_Pl_firstWrongWall_18 rfl (lv_at hl 2 rfl) ?_
              refine lv_iload_n hx hb d_Pl_firstWrongWall_19 rfl (lv_at hl 1 rfl) ?_
              refine sw_ki0 (wr := []) (va_runV (As := [.int j, .int i]) (rest := []) ⟨hx, hb, hml, hown, hw⟩ (c_Pl_clash l D cI cL tq _ p j i pX pY pF pC pA pB pR pK nv ns nw vx vy fa tb (by rw [hq]; exact vp_in_nI (by omega) (by omega)) (by rw [hi]; exact vp_in_nI (by omega) (by omega)) (by rw [hqi]; exact (hv q (by omega)).1) (by rw [hqi]; exact (hv q (by omega)).2) (by rw [hki]; exact (hv k hkn).1) (by rw [hki]; exact (hv k hkn).2)) (cwV 2 hw (sw_gV kw_a936cbbd kw_edf062c2 kw_769e7e73 kw_e4821dd4 kc_Pl_clash) rfl rfl rfl ⟨rfl, yd_Pl_clash⟩ ⟨Nat.le_of_ble_eq_true rfl, Nat.le_of_ble_eq_true rfl⟩) (sw_preV hK hP hD hS hA hG [0, 1, 2, 3, 4] rfl (by decide) 1 0 rfl rfl) rfl rfl hl.1 rfl (lv_room (Nat.le_of_ble_eq_true rfl)) d_Pl_firstWrongWall_20 ⟨Nat.le_of_ble_eq_true rfl, Nat.le_of_ble_eq_true rfl⟩) hP hD hS hA [0, 1, 2, 3, 4] [] rfl rfl (by decide) (by decide) (fun r_20 _ H locs hp_20 hP hD hS => ?_)
              replace hP : va_P D sw_cl [(p, .inr (1, [.ref pX, .ref pY, .ref pF, .ref pC, .ref pA, .ref pB, .ref pR, .ref pK, .int nv, .int ns, .int nw])), (pX, .inl (cI, 64, .inl vx)), (pY, .inl (cI, 64, .inl vy)), (pA, .inl (cI, 64, .inl fa)), (pB, .inl (cI, 64, .inl tb))] H := hP
              replace hD : va_D A [(p, .inr (1, [.ref pX, .ref pY, .ref pF, .ref pC, .ref pA, .ref pB, .ref pR, .ref pK, .int nv, .int ns, .int nw])), (pX, .inl (cI, 64, .inl vx)), (pY, .inl (cI, 64, .inl vy)), (pA, .inl (cI, 64, .inl fa)), (pB, .inl (cI, 64, .inl tb))] := hD
              try dsimp only at hp_20
              subst hp_20
              refine lv_if_eq (tgt := 28) hx hb d_Pl_firstWrongWall_23 (by decide) (fun c_23 => ?_) (fun c_23 => ?_)
              · skip
                replace c_23 := sw_b0.mp c_23
                rw [hki, hqi] at c_23
                refine lv_iinc (v := j + 1) (lv' := [(2, .int (j + 1)), (0, .ref p), (1, .int i)]) hx hb d_Pl_firstWrongWall_28 hl (k := 2) rfl rfl (by decide) rfl (fun ls hl => ?_)
                refine lv_goto (tgt := 12) hx hb d_Pl_firstWrongWall_31 (by decide) ?_
                exact ih_12 (q + 1) (j + 1) _ _ _ (by rw [hq]; exact nI_1 q) (hqk2) (by simp [sw_hit, hz, c_23]) (by omega) (hP.sub [0, 1, 2, 3, 4] rfl) (hD.sub [0, 1, 2, 3, 4] (by decide) rfl) hS (lv_sub hl [1, 2, 0] rfl)
              · skip
                replace c_23 := sw_bn.mp c_23
                rw [hki, hqi] at c_23
                refine lv_iload_n hx hb d_Pl_firstWrongWall_26 rfl (lv_at hl 1 rfl) ?_
                have hP9 := hP.sub (ws' := [(p, .inr (1, [.ref pX, .ref pY, .ref pF, .ref pC, .ref pA, .ref pB, .ref pR, .ref pK, .int nv, .int ns, .int nw])), (pX, .inl (cI, 64, .inl vx)), (pY, .inl (cI, 64, .inl vy)), (pA, .inl (cI, 64, .inl fa)), (pB, .inl (cI, 64, .inl tb))]) [0, 1, 2, 3, 4] rfl
                have hD9 := hD.sub (ws' := [(p, .inr (1, [.ref pX, .ref pY, .ref pF, .ref pC, .ref pA, .ref pB, .ref pR, .ref pK, .int nv, .int ns, .int nw])), (pX, .inl (cI, 64, .inl vx)), (pY, .inl (cI, 64, .inl vy)), (pA, .inl (cI, 64, .inl fa)), (pB, .inl (cI, 64, .inl tb))]) [0, 1, 2, 3, 4] (by decide) rfl
                exact W.iret (v := i) hx hb hr (fun T9 hT9 hW9 => ⟨⟨i, (), rfl, by exact Or.inr ⟨k, hkn, hi, sw_hit_at hqk2 c_23, ht⟩, by rw [hT9]; exact hP9, hD9⟩, hS.F hT9⟩) hS.2.2 d_Pl_firstWrongWall_27
        exact lp_12 _ 0 0 _ _ _ (nI_0.symm) (Nat.zero_le _) (rfl) (Nat.lt_succ_self _) (hP.sub [0, 1, 2, 3, 4] rfl) (hD.sub [0, 1, 2, 3, 4] (by decide) rfl) hS (lv_sub hl [1, 2, 0] rfl)
  exact lp_2 _ 1 1 _ _ _ (rfl) (Nat.le_refl _) (by decide) (fun j hj => by rw [show j = 0 by omega]; rfl) (Nat.lt_succ_self _) (hP.sub [0, 1, 2, 3, 4] rfl) (hD.sub [0, 1, 2, 3, 4] (by decide) rfl) hS (lv_sub hl [1, 0] rfl)

abbrev rm_Pl_stops : Room := { frames := 1, cells := 0, slots := 0, locals := 14 }
abbrev q_Pl_stops (D : va_G) (cI cL : ClassId) (A : Nat → Prop) (p : Nat) (x : Int32) (y : Int32) (pX : Nat) (pY : Nat) (pF : Nat) (pC : Nat) (pA : Nat) (pB : Nat) (pR : Nat) (pK : Nat) (nv : Int32) (ns : Int32) (nw : Int32) (fl : Nat → Int32) (ce : Nat → Int32) (fr : Nat → Int32) (bk : Nat → Int32) : Array Value → State → Outcome → State → Prop := va_Qi (S := Unit) (fun (r : Int32) => fun (_ : Unit) => r = sw_b (sw_stop fl ce fr bk x.toNatClampNeg (!(decide (y = 0))))) (sw_R D A (fun (_ : Unit) => [(p, .inr (1, [.ref pX, .ref pY, .ref pF, .ref pC, .ref pA, .ref pB, .ref pR, .ref pK, .int nv, .int ns, .int nw])), (pF, .inl (cI, 16, .inl fl)), (pC, .inl (cI, 16, .inl ce)), (pR, .inl (cI, 64, .inl fr)), (pK, .inl (cI, 64, .inl bk))])) A
set_option maxHeartbeats 4000000 in
set_option maxRecDepth 100000 in
theorem c_Pl_stops (l : Launch) (D : va_G) (cI cL : ClassId) (tq sz : Nat) (p : Nat) (x : Int32) (y : Int32) (pX : Nat) (pY : Nat) (pF : Nat) (pC : Nat) (pA : Nat) (pB : Nat) (pR : Nat) (pK : Nat) (nv : Int32) (ns : Int32) (nw : Int32) (fl : Nat → Int32) (ce : Nat → Int32) (fr : Nat → Int32) (bk : Nat → Int32) (ix : vp_in x 64) (jr : vp_in (fr x.toNatClampNeg) 16) (jb : bk x.toNatClampNeg = -1 ∨ vp_in (bk x.toNatClampNeg) 16) : Met l y_Pl_stops w_Pl_stops rm_Pl_stops (va_Pc [.ref p, .int x, .int y] (sw_B D cI cL tq sz [(p, .inr (1, [.ref pX, .ref pY, .ref pF, .ref pC, .ref pA, .ref pB, .ref pR, .ref pK, .int nv, .int ns, .int nw])), (pF, .inl (cI, 16, .inl fl)), (pC, .inl (cI, 16, .inl ce)), (pR, .inl (cI, 64, .inl fr)), (pK, .inl (cI, 64, .inl bk))])) (q_Pl_stops D cI cL (va_A [(p, .inr (1, [.ref pX, .ref pY, .ref pF, .ref pC, .ref pA, .ref pB, .ref pR, .ref pK, .int nv, .int ns, .int nw])), (pF, .inl (cI, 16, .inl fl)), (pC, .inl (cI, 16, .inl ce)), (pR, .inl (cI, 64, .inl fr)), (pK, .inl (cI, 64, .inl bk))] sz) p x y pX pY pF pC pA pB pR pK nv ns nw fl ce fr bk) 0 0 (va_A [(p, .inr (1, [.ref pX, .ref pY, .ref pF, .ref pC, .ref pA, .ref pB, .ref pR, .ref pK, .int nv, .int ns, .int nw])), (pF, .inl (cI, 16, .inl fl)), (pC, .inl (cI, 16, .inl ce)), (pR, .inl (cI, 64, .inl fr)), (pK, .inl (cI, 64, .inl bk))] sz) := by
  refine Met.ofW (cc := b_Pl_stops) (maxL := 6) (ret := (some .boolean)) (by decide) rfl ?_
  intro mp me s mm args below meth mk s₁ B hml hv
  obtain ⟨rfl, hsz, hP, hK, hD0, hG⟩ := hv
  have hx := B.exec
  have hb := B.bytes
  have hr := B.returns
  have hts := atoms_spec (ws := w_Pl_stops) B.pre
  have hw : ∀ w ∈ sw_words, w.before _ s = true := fun w h => hts w (List.mem_cons_of_mem _ h)
  have hown : s.vm.findClass R_Pl = some mm.cls := findClass_of_methodNamed B.named
  have hlocks := B.notSynchronized
  subst hsz
  have hD := hD0.self (sz := s.heap.size)
  generalize hAe : va_A [(p, .inr (1, [.ref pX, .ref pY, .ref pF, .ref pC, .ref pA, .ref pB, .ref pR, .ref pK, .int nv, .int ns, .int nw])), (pF, .inl (cI, 16, .inl fl)), (pC, .inl (cI, 16, .inl ce)), (pR, .inl (cI, 64, .inl fr)), (pK, .inl (cI, 64, .inl bk))] s.heap.size = A at hD hG ⊢
  have hA : ∀ q : Nat, s.heap.size ≤ q → A q := fun q h => by rw [← hAe]; exact Or.inr h
  have hS : va_S A s.heap s.heap [] := va_S.rf
  have hl := lv_entry ([.ref p, .int x, .int y]) (n := 6) (Nat.le_of_ble_eq_true rfl)
  rw [lg_entry_eq]
  generalize (lg_sl ([.ref p, .int x, .int y]) ++ List.replicate (6 - (lg_sl ([.ref p, .int x, .int y])).length) Slot.unset).toArray = ls at hl ⊢
  have hl : lv_has ls 6 [(0, .ref p), (1, .int x), (2, .int y)] := hl
  refine lv_aload_n hx hb d_Pl_stops_0 rfl (lv_at hl 0 rfl) ?_
  refine va_get (D := D) (ci := 1) (v := .ref pK) (C := R_Pl) (T := F_Pl) (N := 11) hx hb hw ku_Pl hown hK hP 0 rfl rfl 7 (by decide) (hw _ kw_fa356e2a) (fun _ h9 => h9) rfl d_Pl_stops_1 ?_
  refine lv_iload_n hx hb d_Pl_stops_4 rfl (lv_at hl 1 rfl) ?_
  refine va_iald hx hb hK hP 4 0 rfl rfl (by assumption) d_Pl_stops_5 ?_
  refine lv_iconst (v := (-1)) hx hb d_Pl_stops_6 (by decide) ?_
  refine lv_icmp_ne (tgt := 12) hx hb d_Pl_stops_7 (by decide) (fun c_7 => ?_) (fun c_7 => ?_)
  · skip
    have jk : vp_in (bk x.toNatClampNeg) 16 := jb.resolve_left c_7
    refine lv_iload_n hx hb d_Pl_stops_12 rfl (lv_at hl 2 rfl) ?_
    refine lv_if_eq (tgt := 25) hx hb d_Pl_stops_13 (by decide) (fun c_13 => ?_) (fun c_13 => ?_)
    · skip
      refine lv_aload_n hx hb d_Pl_stops_25 rfl (lv_at hl 0 rfl) ?_
      refine va_get (D := D) (ci := 1) (v := .ref pK) (C := R_Pl) (T := F_Pl) (N := 11) hx hb hw ku_Pl hown hK hP 0 rfl rfl 7 (by decide) (hw _ kw_fa356e2a) (fun _ h9 => h9) rfl d_Pl_stops_26 ?_
      refine lv_iload_n hx hb d_Pl_stops_29 rfl (lv_at hl 1 rfl) ?_
      refine va_iald hx hb hK hP 4 0 rfl rfl (by assumption) d_Pl_stops_30 ?_
      refine lv_istore_n (lv' := [(3, .int (bk x.toNatClampNeg)), (0, .ref p), (1, .int x), (2, .int y)]) hx hb d_Pl_stops_31 rfl hl (by decide) rfl (fun ls hl => ?_)
      refine lv_iload_n hx hb d_Pl_stops_32 rfl (lv_at hl 3 rfl) ?_
      refine lv_if_eq (tgt := 45) hx hb d_Pl_stops_33 (by decide) (fun c_33 => ?_) (fun c_33 => ?_)
      · skip
        refine lv_aload_n hx hb d_Pl_stops_45 rfl (lv_at hl 1 rfl) ?_
        refine va_get (D := D) (ci := 1) (v := .ref pR) (C := R_Pl) (T := F_Pl) (N := 11) hx hb hw ku_Pl hown hK hP 0 rfl rfl 6 (by decide) (hw _ kw_3f39eaf5) (fun _ h9 => h9) rfl d_Pl_stops_46 ?_
        refine lv_iload_n hx hb d_Pl_stops_49 rfl (lv_at hl 2 rfl) ?_
        refine va_iald hx hb hK hP 3 0 rfl rfl (by assumption) d_Pl_stops_50 ?_
        refine lv_istore (lv' := [(4, .int (fr x.toNatClampNeg)), (3, .int (bk x.toNatClampNeg)), (0, .ref p), (1, .int x), (2, .int y)]) hx hb d_Pl_stops_51 hl (by decide) rfl (fun ls hl => ?_)
        refine lv_aload_n hx hb d_Pl_stops_53 rfl (lv_at hl 2 rfl) ?_
        refine va_get (D := D) (ci := 1) (v := .ref pC) (C := R_Pl) (T := F_Pl) (N := 11) hx hb hw ku_Pl hown hK hP 0 rfl rfl 3 (by decide) (hw _ kw_65f1a660) (fun _ h9 => h9) rfl d_Pl_stops_54 ?_
        refine lv_iload_n hx hb d_Pl_stops_57 rfl (lv_at hl 1 rfl) ?_
        refine va_iald hx hb hK hP 2 0 rfl rfl (by assumption) d_Pl_stops_58 ?_
        refine lv_aload_n hx hb d_Pl_stops_59 rfl (lv_at hl 2 rfl) ?_
        refine va_get (D := D) (ci := 1) (v := .ref pC) (C := R_Pl) (T := F_Pl) (N := 11) hx hb hw ku_Pl hown hK hP 0 rfl rfl 3 (by decide) (hw _ kw_65f1a660) (fun _ h9 => h9) rfl d_Pl_stops_60 ?_
        refine lv_iload hx hb d_Pl_stops_63 (lv_at hl 0 rfl) ?_
        refine va_iald hx hb hK hP 2 0 rfl rfl (by assumption) d_Pl_stops_65 ?_
        refine va_mmin hx hb (hml.trans hl.1.symm) hown (hw _ kw_d854bd5a) (hw _ kw_e38315b0) (hw _ kw_0f7fb0a1) (hw _ kc_Math_min) (Nat.le_of_ble_eq_true rfl) (Nat.le_of_ble_eq_true rfl) (Nat.le_of_ble_eq_true rfl) (Nat.le_of_ble_eq_true rfl) d_Pl_stops_66 ?_
        refine lv_aload_n hx hb d_Pl_stops_69 rfl (lv_at hl 2 rfl) ?_
        refine va_get (D := D) (ci := 1) (v := .ref pF) (C := R_Pl) (T := F_Pl) (N := 11) hx hb hw ku_Pl hown hK hP 0 rfl rfl 2 (by decide) (hw _ kw_27d57bb8) (fun _ h9 => h9) rfl d_Pl_stops_70 ?_
        refine lv_iload_n hx hb d_Pl_stops_73 rfl (lv_at hl 1 rfl) ?_
        refine va_iald hx hb hK hP 1 0 rfl rfl (by assumption) d_Pl_stops_74 ?_
        refine lv_aload_n hx hb d_Pl_stops_75 rfl (lv_at hl 2 rfl) ?_
        refine va_get (D := D) (ci := 1) (v := .ref pF) (C := R_Pl) (T := F_Pl) (N := 11) hx hb hw ku_Pl hown hK hP 0 rfl rfl 2 (by decide) (hw _ kw_27d57bb8) (fun _ h9 => h9) rfl d_Pl_stops_76 ?_
        refine lv_iload hx hb d_Pl_stops_79 (lv_at hl 0 rfl) ?_
        refine va_iald hx hb hK hP 1 0 rfl rfl (by assumption) d_Pl_stops_81 ?_
        refine va_mmax hx hb (hml.trans hl.1.symm) hown (hw _ kw_abc36f78) (hw _ kw_05e3ba51) (hw _ kw_0f7fb0a1) (hw _ kc_Math_max) (Nat.le_of_ble_eq_true rfl) (Nat.le_of_ble_eq_true rfl) (Nat.le_of_ble_eq_true rfl) (Nat.le_of_ble_eq_true rfl) d_Pl_stops_82 ?_
        refine lv_isub hx hb d_Pl_stops_85 ?_
        refine lv_istore (lv' := [(5, .int ((sw_mn (ce (bk x.toNatClampNeg).toNatClampNeg) (ce (fr x.toNatClampNeg).toNatClampNeg)) - (sw_mx (fl (bk x.toNatClampNeg).toNatClampNeg) (fl (fr x.toNatClampNeg).toNatClampNeg)))), (4, .int (fr x.toNatClampNeg)), (3, .int (bk x.toNatClampNeg)), (0, .ref p), (1, .int x), (2, .int y)]) hx hb d_Pl_stops_86 hl (by decide) rfl (fun ls hl => ?_)
        refine lv_aload_n hx hb d_Pl_stops_88 rfl (lv_at hl 3 rfl) ?_
        refine va_get (D := D) (ci := 1) (v := .ref pF) (C := R_Pl) (T := F_Pl) (N := 11) hx hb hw ku_Pl hown hK hP 0 rfl rfl 2 (by decide) (hw _ kw_27d57bb8) (fun _ h9 => h9) rfl d_Pl_stops_89 ?_
        refine lv_iload hx hb d_Pl_stops_92 (lv_at hl 1 rfl) ?_
        refine va_iald hx hb hK hP 1 0 rfl rfl (by assumption) d_Pl_stops_94 ?_
        refine lv_aload_n hx hb d_Pl_stops_95 rfl (lv_at hl 3 rfl) ?_
        refine va_get (D := D) (ci := 1) (v := .ref pF) (C := R_Pl) (T := F_Pl) (N := 11) hx hb hw ku_Pl hown hK hP 0 rfl rfl 2 (by decide) (hw _ kw_27d57bb8) (fun _ h9 => h9) rfl d_Pl_stops_96 ?_
        refine lv_iload_n hx hb d_Pl_stops_99 rfl (lv_at hl 2 rfl) ?_
        refine va_iald hx hb hK hP 1 0 rfl rfl (by assumption) d_Pl_stops_100 ?_
        refine lv_isub hx hb d_Pl_stops_101 ?_
        refine lv_bipush (v := 24) hx hb d_Pl_stops_102 (by decide) ?_
        refine lv_icmp_gt (tgt := 114) hx hb d_Pl_stops_104 (by decide) (fun c_104 => ?_) (fun c_104 => ?_)
        · skip
          refine lv_iconst (v := 1) hx hb d_Pl_stops_114 (by decide) ?_
          refine lv_goto (tgt := 119) hx hb d_Pl_stops_115 (by decide) ?_
          have hP9 := hP.sub (ws' := [(p, .inr (1, [.ref pX, .ref pY, .ref pF, .ref pC, .ref pA, .ref pB, .ref pR, .ref pK, .int nv, .int ns, .int nw])), (pF, .inl (cI, 16, .inl fl)), (pC, .inl (cI, 16, .inl ce)), (pR, .inl (cI, 64, .inl fr)), (pK, .inl (cI, 64, .inl bk))]) [0, 1, 2, 3, 4] rfl
          have hD9 := hD.sub (ws' := [(p, .inr (1, [.ref pX, .ref pY, .ref pF, .ref pC, .ref pA, .ref pB, .ref pR, .ref pK, .int nv, .int ns, .int nw])), (pF, .inl (cI, 16, .inl fl)), (pC, .inl (cI, 16, .inl ce)), (pR, .inl (cI, 64, .inl fr)), (pK, .inl (cI, 64, .inl bk))]) [0, 1, 2, 3, 4] (by decide) rfl
          exact W.zret (ty := .boolean) (v := 1) hx hb hr (rfl) (fun T9 hT9 hW9 => ⟨⟨1, (), rfl, by simp [sw_b, sw_stop, sw_stf, c_7, c_13, c_33, c_104], by rw [hT9]; exact hP9, hD9⟩, hS.F hT9⟩) hS.2.2 d_Pl_stops_119
        · skip
          refine lv_iload hx hb d_Pl_stops_107 (lv_at hl 0 rfl) ?_
          refine lv_bipush (v := 56) hx hb d_Pl_stops_109 (by decide) ?_
          refine lv_icmp_ge (tgt := 118) hx hb d_Pl_stops_111 (by decide) (fun c_111 => ?_) (fun c_111 => ?_)
          · skip
            replace c_111 : (56 ≤ ((sw_mn (ce (bk x.toNatClampNeg).toNatClampNeg) (ce (fr x.toNatClampNeg).toNatClampNeg)) - (sw_mx (fl (bk x.toNatClampNeg).toNatClampNeg) (fl (fr x.toNatClampNeg).toNatClampNeg)))) := c_111
            refine lv_iconst (v := 0) hx hb d_Pl_stops_118 (by decide) ?_
            have hP9 := hP.sub (ws' := [(p, .inr (1, [.ref pX, .ref pY, .ref pF, .ref pC, .ref pA, .ref pB, .ref pR, .ref pK, .int nv, .int ns, .int nw])), (pF, .inl (cI, 16, .inl fl)), (pC, .inl (cI, 16, .inl ce)), (pR, .inl (cI, 64, .inl fr)), (pK, .inl (cI, 64, .inl bk))]) [0, 1, 2, 3, 4] rfl
            have hD9 := hD.sub (ws' := [(p, .inr (1, [.ref pX, .ref pY, .ref pF, .ref pC, .ref pA, .ref pB, .ref pR, .ref pK, .int nv, .int ns, .int nw])), (pF, .inl (cI, 16, .inl fl)), (pC, .inl (cI, 16, .inl ce)), (pR, .inl (cI, 64, .inl fr)), (pK, .inl (cI, 64, .inl bk))]) [0, 1, 2, 3, 4] (by decide) rfl
            exact W.zret (ty := .boolean) (v := 0) hx hb hr (rfl) (fun T9 hT9 hW9 => ⟨⟨0, (), rfl, by simp [sw_b, sw_stop, sw_stf, c_7, c_13, c_33, c_104, c_111], by rw [hT9]; exact hP9, hD9⟩, hS.F hT9⟩) hS.2.2 d_Pl_stops_119
          · skip
            replace c_111 : ¬ (56 ≤ ((sw_mn (ce (bk x.toNatClampNeg).toNatClampNeg) (ce (fr x.toNatClampNeg).toNatClampNeg)) - (sw_mx (fl (bk x.toNatClampNeg).toNatClampNeg) (fl (fr x.toNatClampNeg).toNatClampNeg)))) := c_111
            refine lv_iconst (v := 1) hx hb d_Pl_stops_114 (by decide) ?_
            refine lv_goto (tgt := 119) hx hb d_Pl_stops_115 (by decide) ?_
            have hP9 := hP.sub (ws' := [(p, .inr (1, [.ref pX, .ref pY, .ref pF, .ref pC, .ref pA, .ref pB, .ref pR, .ref pK, .int nv, .int ns, .int nw])), (pF, .inl (cI, 16, .inl fl)), (pC, .inl (cI, 16, .inl ce)), (pR, .inl (cI, 64, .inl fr)), (pK, .inl (cI, 64, .inl bk))]) [0, 1, 2, 3, 4] rfl
            have hD9 := hD.sub (ws' := [(p, .inr (1, [.ref pX, .ref pY, .ref pF, .ref pC, .ref pA, .ref pB, .ref pR, .ref pK, .int nv, .int ns, .int nw])), (pF, .inl (cI, 16, .inl fl)), (pC, .inl (cI, 16, .inl ce)), (pR, .inl (cI, 64, .inl fr)), (pK, .inl (cI, 64, .inl bk))]) [0, 1, 2, 3, 4] (by decide) rfl
            exact W.zret (ty := .boolean) (v := 1) hx hb hr (rfl) (fun T9 hT9 hW9 => ⟨⟨1, (), rfl, by simp [sw_b, sw_stop, sw_stf, c_7, c_13, c_33, c_104, c_111], by rw [hT9]; exact hP9, hD9⟩, hS.F hT9⟩) hS.2.2 d_Pl_stops_119
      · skip
        exact absurd c_13 c_33
    · skip
      refine lv_aload_n hx hb d_Pl_stops_16 rfl (lv_at hl 0 rfl) ?_
      refine va_get (D := D) (ci := 1) (v := .ref pR) (C := R_Pl) (T := F_Pl) (N := 11) hx hb hw ku_Pl hown hK hP 0 rfl rfl 6 (by decide) (hw _ kw_3f39eaf5) (fun _ h9 => h9) rfl d_Pl_stops_17 ?_
      refine lv_iload_n hx hb d_Pl_stops_20 rfl (lv_at hl 1 rfl) ?_
      refine va_iald hx hb hK hP 3 0 rfl rfl (by assumption) d_Pl_stops_21 ?_
      refine lv_goto (tgt := 31) hx hb d_Pl_stops_22 (by decide) ?_
      refine lv_istore_n (lv' := [(3, .int (fr x.toNatClampNeg)), (0, .ref p), (1, .int x), (2, .int y)]) hx hb d_Pl_stops_31 rfl hl (by decide) rfl (fun ls hl => ?_)
      refine lv_iload_n hx hb d_Pl_stops_32 rfl (lv_at hl 3 rfl) ?_
      refine lv_if_eq (tgt := 45) hx hb d_Pl_stops_33 (by decide) (fun c_33 => ?_) (fun c_33 => ?_)
      · skip
        exact absurd c_33 c_13
      · skip
        refine lv_aload_n hx hb d_Pl_stops_36 rfl (lv_at hl 1 rfl) ?_
        refine va_get (D := D) (ci := 1) (v := .ref pK) (C := R_Pl) (T := F_Pl) (N := 11) hx hb hw ku_Pl hown hK hP 0 rfl rfl 7 (by decide) (hw _ kw_fa356e2a) (fun _ h9 => h9) rfl d_Pl_stops_37 ?_
        refine lv_iload_n hx hb d_Pl_stops_40 rfl (lv_at hl 2 rfl) ?_
        refine va_iald hx hb hK hP 4 0 rfl rfl (by assumption) d_Pl_stops_41 ?_
        refine lv_goto (tgt := 51) hx hb d_Pl_stops_42 (by decide) ?_
        refine lv_istore (lv' := [(4, .int (bk x.toNatClampNeg)), (3, .int (fr x.toNatClampNeg)), (0, .ref p), (1, .int x), (2, .int y)]) hx hb d_Pl_stops_51 hl (by decide) rfl (fun ls hl => ?_)
        refine lv_aload_n hx hb d_Pl_stops_53 rfl (lv_at hl 2 rfl) ?_
        refine va_get (D := D) (ci := 1) (v := .ref pC) (C := R_Pl) (T := F_Pl) (N := 11) hx hb hw ku_Pl hown hK hP 0 rfl rfl 3 (by decide) (hw _ kw_65f1a660) (fun _ h9 => h9) rfl d_Pl_stops_54 ?_
        refine lv_iload_n hx hb d_Pl_stops_57 rfl (lv_at hl 1 rfl) ?_
        refine va_iald hx hb hK hP 2 0 rfl rfl (by assumption) d_Pl_stops_58 ?_
        refine lv_aload_n hx hb d_Pl_stops_59 rfl (lv_at hl 2 rfl) ?_
        refine va_get (D := D) (ci := 1) (v := .ref pC) (C := R_Pl) (T := F_Pl) (N := 11) hx hb hw ku_Pl hown hK hP 0 rfl rfl 3 (by decide) (hw _ kw_65f1a660) (fun _ h9 => h9) rfl d_Pl_stops_60 ?_
        refine lv_iload hx hb d_Pl_stops_63 (lv_at hl 0 rfl) ?_
        refine va_iald hx hb hK hP 2 0 rfl rfl (by assumption) d_Pl_stops_65 ?_
        refine va_mmin hx hb (hml.trans hl.1.symm) hown (hw _ kw_d854bd5a) (hw _ kw_e38315b0) (hw _ kw_0f7fb0a1) (hw _ kc_Math_min) (Nat.le_of_ble_eq_true rfl) (Nat.le_of_ble_eq_true rfl) (Nat.le_of_ble_eq_true rfl) (Nat.le_of_ble_eq_true rfl) d_Pl_stops_66 ?_
        refine lv_aload_n hx hb d_Pl_stops_69 rfl (lv_at hl 2 rfl) ?_
        refine va_get (D := D) (ci := 1) (v := .ref pF) (C := R_Pl) (T := F_Pl) (N := 11) hx hb hw ku_Pl hown hK hP 0 rfl rfl 2 (by decide) (hw _ kw_27d57bb8) (fun _ h9 => h9) rfl d_Pl_stops_70 ?_
        refine lv_iload_n hx hb d_Pl_stops_73 rfl (lv_at hl 1 rfl) ?_
        refine va_iald hx hb hK hP 1 0 rfl rfl (by assumption) d_Pl_stops_74 ?_
        refine lv_aload_n hx hb d_Pl_stops_75 rfl (lv_at hl 2 rfl) ?_
        refine va_get (D := D) (ci := 1) (v := .ref pF) (C := R_Pl) (T := F_Pl) (N := 11) hx hb hw ku_Pl hown hK hP 0 rfl rfl 2 (by decide) (hw _ kw_27d57bb8) (fun _ h9 => h9) rfl d_Pl_stops_76 ?_
        refine lv_iload hx hb d_Pl_stops_79 (lv_at hl 0 rfl) ?_
        refine va_iald hx hb hK hP 1 0 rfl rfl (by assumption) d_Pl_stops_81 ?_
        refine va_mmax hx hb (hml.trans hl.1.symm) hown (hw _ kw_abc36f78) (hw _ kw_05e3ba51) (hw _ kw_0f7fb0a1) (hw _ kc_Math_max) (Nat.le_of_ble_eq_true rfl) (Nat.le_of_ble_eq_true rfl) (Nat.le_of_ble_eq_true rfl) (Nat.le_of_ble_eq_true rfl) d_Pl_stops_82 ?_
        refine lv_isub hx hb d_Pl_stops_85 ?_
        refine lv_istore (lv' := [(5, .int ((sw_mn (ce (fr x.toNatClampNeg).toNatClampNeg) (ce (bk x.toNatClampNeg).toNatClampNeg)) - (sw_mx (fl (fr x.toNatClampNeg).toNatClampNeg) (fl (bk x.toNatClampNeg).toNatClampNeg)))), (4, .int (bk x.toNatClampNeg)), (3, .int (fr x.toNatClampNeg)), (0, .ref p), (1, .int x), (2, .int y)]) hx hb d_Pl_stops_86 hl (by decide) rfl (fun ls hl => ?_)
        refine lv_aload_n hx hb d_Pl_stops_88 rfl (lv_at hl 3 rfl) ?_
        refine va_get (D := D) (ci := 1) (v := .ref pF) (C := R_Pl) (T := F_Pl) (N := 11) hx hb hw ku_Pl hown hK hP 0 rfl rfl 2 (by decide) (hw _ kw_27d57bb8) (fun _ h9 => h9) rfl d_Pl_stops_89 ?_
        refine lv_iload hx hb d_Pl_stops_92 (lv_at hl 1 rfl) ?_
        refine va_iald hx hb hK hP 1 0 rfl rfl (by assumption) d_Pl_stops_94 ?_
        refine lv_aload_n hx hb d_Pl_stops_95 rfl (lv_at hl 3 rfl) ?_
        refine va_get (D := D) (ci := 1) (v := .ref pF) (C := R_Pl) (T := F_Pl) (N := 11) hx hb hw ku_Pl hown hK hP 0 rfl rfl 2 (by decide) (hw _ kw_27d57bb8) (fun _ h9 => h9) rfl d_Pl_stops_96 ?_
        refine lv_iload_n hx hb d_Pl_stops_99 rfl (lv_at hl 2 rfl) ?_
        refine va_iald hx hb hK hP 1 0 rfl rfl (by assumption) d_Pl_stops_100 ?_
        refine lv_isub hx hb d_Pl_stops_101 ?_
        refine lv_bipush (v := 24) hx hb d_Pl_stops_102 (by decide) ?_
        refine lv_icmp_gt (tgt := 114) hx hb d_Pl_stops_104 (by decide) (fun c_104 => ?_) (fun c_104 => ?_)
        · skip
          refine lv_iconst (v := 1) hx hb d_Pl_stops_114 (by decide) ?_
          refine lv_goto (tgt := 119) hx hb d_Pl_stops_115 (by decide) ?_
          have hP9 := hP.sub (ws' := [(p, .inr (1, [.ref pX, .ref pY, .ref pF, .ref pC, .ref pA, .ref pB, .ref pR, .ref pK, .int nv, .int ns, .int nw])), (pF, .inl (cI, 16, .inl fl)), (pC, .inl (cI, 16, .inl ce)), (pR, .inl (cI, 64, .inl fr)), (pK, .inl (cI, 64, .inl bk))]) [0, 1, 2, 3, 4] rfl
          have hD9 := hD.sub (ws' := [(p, .inr (1, [.ref pX, .ref pY, .ref pF, .ref pC, .ref pA, .ref pB, .ref pR, .ref pK, .int nv, .int ns, .int nw])), (pF, .inl (cI, 16, .inl fl)), (pC, .inl (cI, 16, .inl ce)), (pR, .inl (cI, 64, .inl fr)), (pK, .inl (cI, 64, .inl bk))]) [0, 1, 2, 3, 4] (by decide) rfl
          exact W.zret (ty := .boolean) (v := 1) hx hb hr (rfl) (fun T9 hT9 hW9 => ⟨⟨1, (), rfl, by simp [sw_b, sw_stop, sw_stf, c_7, c_13, c_33, c_104], by rw [hT9]; exact hP9, hD9⟩, hS.F hT9⟩) hS.2.2 d_Pl_stops_119
        · skip
          refine lv_iload hx hb d_Pl_stops_107 (lv_at hl 0 rfl) ?_
          refine lv_bipush (v := 56) hx hb d_Pl_stops_109 (by decide) ?_
          refine lv_icmp_ge (tgt := 118) hx hb d_Pl_stops_111 (by decide) (fun c_111 => ?_) (fun c_111 => ?_)
          · skip
            replace c_111 : (56 ≤ ((sw_mn (ce (fr x.toNatClampNeg).toNatClampNeg) (ce (bk x.toNatClampNeg).toNatClampNeg)) - (sw_mx (fl (fr x.toNatClampNeg).toNatClampNeg) (fl (bk x.toNatClampNeg).toNatClampNeg)))) := c_111
            refine lv_iconst (v := 0) hx hb d_Pl_stops_118 (by decide) ?_
            have hP9 := hP.sub (ws' := [(p, .inr (1, [.ref pX, .ref pY, .ref pF, .ref pC, .ref pA, .ref pB, .ref pR, .ref pK, .int nv, .int ns, .int nw])), (pF, .inl (cI, 16, .inl fl)), (pC, .inl (cI, 16, .inl ce)), (pR, .inl (cI, 64, .inl fr)), (pK, .inl (cI, 64, .inl bk))]) [0, 1, 2, 3, 4] rfl
            have hD9 := hD.sub (ws' := [(p, .inr (1, [.ref pX, .ref pY, .ref pF, .ref pC, .ref pA, .ref pB, .ref pR, .ref pK, .int nv, .int ns, .int nw])), (pF, .inl (cI, 16, .inl fl)), (pC, .inl (cI, 16, .inl ce)), (pR, .inl (cI, 64, .inl fr)), (pK, .inl (cI, 64, .inl bk))]) [0, 1, 2, 3, 4] (by decide) rfl
            exact W.zret (ty := .boolean) (v := 0) hx hb hr (rfl) (fun T9 hT9 hW9 => ⟨⟨0, (), rfl, by simp [sw_b, sw_stop, sw_stf, c_7, c_13, c_33, c_104, c_111], by rw [hT9]; exact hP9, hD9⟩, hS.F hT9⟩) hS.2.2 d_Pl_stops_119
          · skip
            replace c_111 : ¬ (56 ≤ ((sw_mn (ce (fr x.toNatClampNeg).toNatClampNeg) (ce (bk x.toNatClampNeg).toNatClampNeg)) - (sw_mx (fl (fr x.toNatClampNeg).toNatClampNeg) (fl (bk x.toNatClampNeg).toNatClampNeg)))) := c_111
            refine lv_iconst (v := 1) hx hb d_Pl_stops_114 (by decide) ?_
            refine lv_goto (tgt := 119) hx hb d_Pl_stops_115 (by decide) ?_
            have hP9 := hP.sub (ws' := [(p, .inr (1, [.ref pX, .ref pY, .ref pF, .ref pC, .ref pA, .ref pB, .ref pR, .ref pK, .int nv, .int ns, .int nw])), (pF, .inl (cI, 16, .inl fl)), (pC, .inl (cI, 16, .inl ce)), (pR, .inl (cI, 64, .inl fr)), (pK, .inl (cI, 64, .inl bk))]) [0, 1, 2, 3, 4] rfl
            have hD9 := hD.sub (ws' := [(p, .inr (1, [.ref pX, .ref pY, .ref pF, .ref pC, .ref pA, .ref pB, .ref pR, .ref pK, .int nv, .int ns, .int nw])), (pF, .inl (cI, 16, .inl fl)), (pC, .inl (cI, 16, .inl ce)), (pR, .inl (cI, 64, .inl fr)), (pK, .inl (cI, 64, .inl bk))]) [0, 1, 2, 3, 4] (by decide) rfl
            exact W.zret (ty := .boolean) (v := 1) hx hb hr (rfl) (fun T9 hT9 hW9 => ⟨⟨1, (), rfl, by simp [sw_b, sw_stop, sw_stf, c_7, c_13, c_33, c_104, c_111], by rw [hT9]; exact hP9, hD9⟩, hS.F hT9⟩) hS.2.2 d_Pl_stops_119
  · skip
    refine lv_iconst (v := 1) hx hb d_Pl_stops_10 (by decide) ?_
    have hP9 := hP.sub (ws' := [(p, .inr (1, [.ref pX, .ref pY, .ref pF, .ref pC, .ref pA, .ref pB, .ref pR, .ref pK, .int nv, .int ns, .int nw])), (pF, .inl (cI, 16, .inl fl)), (pC, .inl (cI, 16, .inl ce)), (pR, .inl (cI, 64, .inl fr)), (pK, .inl (cI, 64, .inl bk))]) [0, 1, 2, 3, 4] rfl
    have hD9 := hD.sub (ws' := [(p, .inr (1, [.ref pX, .ref pY, .ref pF, .ref pC, .ref pA, .ref pB, .ref pR, .ref pK, .int nv, .int ns, .int nw])), (pF, .inl (cI, 16, .inl fl)), (pC, .inl (cI, 16, .inl ce)), (pR, .inl (cI, 64, .inl fr)), (pK, .inl (cI, 64, .inl bk))]) [0, 1, 2, 3, 4] (by decide) rfl
    exact W.zret (ty := .boolean) (v := 1) hx hb hr (rfl) (fun T9 hT9 hW9 => ⟨⟨1, (), rfl, by simp [sw_b, sw_stop, sw_stf, c_7], by rw [hT9]; exact hP9, hD9⟩, hS.F hT9⟩) hS.2.2 d_Pl_stops_11
end
section
abbrev rm_Cr_comesFromFront : Room := { frames := 0, cells := 0, slots := 0, locals := 0 }
abbrev q_Cr_comesFromFront (D : va_G) (cI cL : ClassId) (A : Nat → Prop) (k : Nat) (x : Int32) (k1 : Nat) (k2 : Nat) (k3 : Nat) (nk : Int32) (fs : Int32) (pp : Nat → Int32) : Array Value → State → Outcome → State → Prop := va_Qi (S := Unit) (fun (r : Int32) => fun (_ : Unit) => r = sw_b (!(decide (0 ≤ pp x.toNatClampNeg)))) (sw_R D A (fun (_ : Unit) => [(k, .inr (4, [.ref k1, .ref k2, .ref k3, .int nk, .int fs])), (k2, .inl (cI, 64, .inl pp))])) A
set_option maxHeartbeats 4000000 in
set_option maxRecDepth 100000 in
theorem c_Cr_comesFromFront (l : Launch) (D : va_G) (cI cL : ClassId) (tq sz : Nat) (k : Nat) (x : Int32) (k1 : Nat) (k2 : Nat) (k3 : Nat) (nk : Int32) (fs : Int32) (pp : Nat → Int32) (ix : vp_in x 64) : Met l y_Cr_comesFromFront w_Cr_comesFromFront rm_Cr_comesFromFront (va_Pc [.ref k, .int x] (sw_B D cI cL tq sz [(k, .inr (4, [.ref k1, .ref k2, .ref k3, .int nk, .int fs])), (k2, .inl (cI, 64, .inl pp))])) (q_Cr_comesFromFront D cI cL (va_A [(k, .inr (4, [.ref k1, .ref k2, .ref k3, .int nk, .int fs])), (k2, .inl (cI, 64, .inl pp))] sz) k x k1 k2 k3 nk fs pp) 0 0 (va_A [(k, .inr (4, [.ref k1, .ref k2, .ref k3, .int nk, .int fs])), (k2, .inl (cI, 64, .inl pp))] sz) := by
  refine Met.ofW (cc := b_Cr_comesFromFront) (maxL := 2) (ret := (some .boolean)) (by decide) rfl ?_
  intro mp me s mm args below meth mk s₁ B hml hv
  obtain ⟨rfl, hsz, hP, hK, hD0, hG⟩ := hv
  have hx := B.exec
  have hb := B.bytes
  have hr := B.returns
  have hts := atoms_spec (ws := w_Cr_comesFromFront) B.pre
  have hw : ∀ w ∈ sw_words, w.before _ s = true := fun w h => hts w (List.mem_cons_of_mem _ h)
  have hown : s.vm.findClass R_Cr = some mm.cls := findClass_of_methodNamed B.named
  have hlocks := B.notSynchronized
  subst hsz
  have hD := hD0.self (sz := s.heap.size)
  generalize hAe : va_A [(k, .inr (4, [.ref k1, .ref k2, .ref k3, .int nk, .int fs])), (k2, .inl (cI, 64, .inl pp))] s.heap.size = A at hD hG ⊢
  have hA : ∀ q : Nat, s.heap.size ≤ q → A q := fun q h => by rw [← hAe]; exact Or.inr h
  have hS : va_S A s.heap s.heap [] := va_S.rf
  have hl := lv_entry ([.ref k, .int x]) (n := 2) (Nat.le_of_ble_eq_true rfl)
  rw [lg_entry_eq]
  generalize (lg_sl ([.ref k, .int x]) ++ List.replicate (2 - (lg_sl ([.ref k, .int x])).length) Slot.unset).toArray = ls at hl ⊢
  have hl : lv_has ls 2 [(0, .ref k), (1, .int x)] := hl
  refine lv_aload_n hx hb d_Cr_comesFromFront_0 rfl (lv_at hl 0 rfl) ?_
  refine va_get (D := D) (ci := 4) (v := .ref k2) (C := R_Cr) (T := F_Cr) (N := 5) hx hb hw ku_Cr hown hK hP 0 rfl rfl 1 (by decide) (hw _ kw_600bd2b2) (fun _ h9 => h9) rfl d_Cr_comesFromFront_1 ?_
  refine lv_iload_n hx hb d_Cr_comesFromFront_4 rfl (lv_at hl 1 rfl) ?_
  refine va_iald hx hb hK hP 1 0 rfl rfl (by assumption) d_Cr_comesFromFront_5 ?_
  refine lv_if_ge (tgt := 13) hx hb d_Cr_comesFromFront_6 (by decide) (fun c_6 => ?_) (fun c_6 => ?_)
  · skip
    refine lv_iconst (v := 0) hx hb d_Cr_comesFromFront_13 (by decide) ?_
    have hP9 := hP.sub (ws' := [(k, .inr (4, [.ref k1, .ref k2, .ref k3, .int nk, .int fs])), (k2, .inl (cI, 64, .inl pp))]) [0, 1] rfl
    have hD9 := hD.sub (ws' := [(k, .inr (4, [.ref k1, .ref k2, .ref k3, .int nk, .int fs])), (k2, .inl (cI, 64, .inl pp))]) [0, 1] (by decide) rfl
    exact W.zret (ty := .boolean) (v := 0) hx hb hr (rfl) (fun T9 hT9 hW9 => ⟨⟨0, (), rfl, by simp [sw_b, c_6], by rw [hT9]; exact hP9, hD9⟩, hS.F hT9⟩) hS.2.2 d_Cr_comesFromFront_14
  · skip
    refine lv_iconst (v := 1) hx hb d_Cr_comesFromFront_9 (by decide) ?_
    refine lv_goto (tgt := 14) hx hb d_Cr_comesFromFront_10 (by decide) ?_
    have hP9 := hP.sub (ws' := [(k, .inr (4, [.ref k1, .ref k2, .ref k3, .int nk, .int fs])), (k2, .inl (cI, 64, .inl pp))]) [0, 1] rfl
    have hD9 := hD.sub (ws' := [(k, .inr (4, [.ref k1, .ref k2, .ref k3, .int nk, .int fs])), (k2, .inl (cI, 64, .inl pp))]) [0, 1] (by decide) rfl
    exact W.zret (ty := .boolean) (v := 1) hx hb hr (rfl) (fun T9 hT9 hW9 => ⟨⟨1, (), rfl, by simp [sw_b, c_6], by rw [hT9]; exact hP9, hD9⟩, hS.F hT9⟩) hS.2.2 d_Cr_comesFromFront_14

abbrev rm_Cr_isUpToOne : Room := { frames := 0, cells := 0, slots := 0, locals := 0 }
abbrev q_Cr_isUpToOne (D : va_G) (cI cL : ClassId) (A : Nat → Prop) (x : Int32) (y : Int32) : Array Value → State → Outcome → State → Prop := va_Qi (S := Unit) (fun (r : Int32) => fun (_ : Unit) => r = sw_b (sw_up1 x y)) (sw_R D A (fun (_ : Unit) => [])) A
set_option maxHeartbeats 4000000 in
set_option maxRecDepth 100000 in
theorem c_Cr_isUpToOne (l : Launch) (D : va_G) (cI cL : ClassId) (tq sz : Nat) (x : Int32) (y : Int32) : Met l y_Cr_isUpToOne w_Cr_isUpToOne rm_Cr_isUpToOne (va_Pc [.int x, .int y] (sw_B D cI cL tq sz [])) (q_Cr_isUpToOne D cI cL (va_A [] sz) x y) 0 0 (va_A [] sz) := by
  refine Met.ofW (cc := b_Cr_isUpToOne) (maxL := 2) (ret := (some .boolean)) (by decide) rfl ?_
  intro mp me s mm args below meth mk s₁ B hml hv
  obtain ⟨rfl, hsz, hP, hK, hD0, hG⟩ := hv
  have hx := B.exec
  have hb := B.bytes
  have hr := B.returns
  have hts := atoms_spec (ws := w_Cr_isUpToOne) B.pre
  have hw : ∀ w ∈ sw_words, w.before _ s = true := fun w h => hts w (List.mem_cons_of_mem _ h)
  have hown : s.vm.findClass R_Cr = some mm.cls := findClass_of_methodNamed B.named
  have hlocks := B.notSynchronized
  subst hsz
  have hD := hD0.self (sz := s.heap.size)
  generalize hAe : va_A [] s.heap.size = A at hD hG ⊢
  have hA : ∀ q : Nat, s.heap.size ≤ q → A q := fun q h => by rw [← hAe]; exact Or.inr h
  have hS : va_S A s.heap s.heap [] := va_S.rf
  have hl := lv_entry ([.int x, .int y]) (n := 2) (Nat.le_of_ble_eq_true rfl)
  rw [lg_entry_eq]
  generalize (lg_sl ([.int x, .int y]) ++ List.replicate (2 - (lg_sl ([.int x, .int y])).length) Slot.unset).toArray = ls at hl ⊢
  have hl : lv_has ls 2 [(0, .int x), (1, .int y)] := hl
  refine lv_iload_n hx hb d_Cr_isUpToOne_0 rfl (lv_at hl 1 rfl) ?_
  refine lv_if_le (tgt := 21) hx hb d_Cr_isUpToOne_1 (by decide) (fun c_1 => ?_) (fun c_1 => ?_)
  · skip
    refine lv_iload_n hx hb d_Cr_isUpToOne_21 rfl (lv_at hl 0 rfl) ?_
    refine lv_if_ge (tgt := 34) hx hb d_Cr_isUpToOne_22 (by decide) (fun c_22 => ?_) (fun c_22 => ?_)
    · skip
      refine lv_iconst (v := 0) hx hb d_Cr_isUpToOne_34 (by decide) ?_
      have hP9 := hP.sub (ws' := []) [] rfl
      have hD9 := hD.sub (ws' := []) [] (by decide) rfl
      exact W.zret (ty := .boolean) (v := 0) hx hb hr (rfl) (fun T9 hT9 hW9 => ⟨⟨0, (), rfl, by simp [sw_b, sw_up1, c_1, c_22], by rw [hT9]; exact hP9, hD9⟩, hS.F hT9⟩) hS.2.2 d_Cr_isUpToOne_35
    · skip
      refine lv_iload_n hx hb d_Cr_isUpToOne_25 rfl (lv_at hl 0 rfl) ?_
      refine lv_iload_n hx hb d_Cr_isUpToOne_26 rfl (lv_at hl 1 rfl) ?_
      refine lv_icmp_lt (tgt := 34) hx hb d_Cr_isUpToOne_27 (by decide) (fun c_27 => ?_) (fun c_27 => ?_)
      · skip
        refine lv_iconst (v := 0) hx hb d_Cr_isUpToOne_34 (by decide) ?_
        have hP9 := hP.sub (ws' := []) [] rfl
        have hD9 := hD.sub (ws' := []) [] (by decide) rfl
        exact W.zret (ty := .boolean) (v := 0) hx hb hr (rfl) (fun T9 hT9 hW9 => ⟨⟨0, (), rfl, by simp [sw_b, sw_up1, c_1, c_22, c_27], by rw [hT9]; exact hP9, hD9⟩, hS.F hT9⟩) hS.2.2 d_Cr_isUpToOne_35
      · skip
        refine lv_iconst (v := 1) hx hb d_Cr_isUpToOne_30 (by decide) ?_
        refine lv_goto (tgt := 35) hx hb d_Cr_isUpToOne_31 (by decide) ?_
        have hP9 := hP.sub (ws' := []) [] rfl
        have hD9 := hD.sub (ws' := []) [] (by decide) rfl
        exact W.zret (ty := .boolean) (v := 1) hx hb hr (rfl) (fun T9 hT9 hW9 => ⟨⟨1, (), rfl, by simp [sw_b, sw_up1, c_1, c_22, c_27], by rw [hT9]; exact hP9, hD9⟩, hS.F hT9⟩) hS.2.2 d_Cr_isUpToOne_35
  · skip
    refine lv_iload_n hx hb d_Cr_isUpToOne_4 rfl (lv_at hl 0 rfl) ?_
    refine lv_if_le (tgt := 17) hx hb d_Cr_isUpToOne_5 (by decide) (fun c_5 => ?_) (fun c_5 => ?_)
    · skip
      refine lv_iconst (v := 0) hx hb d_Cr_isUpToOne_17 (by decide) ?_
      refine lv_goto (tgt := 35) hx hb d_Cr_isUpToOne_18 (by decide) ?_
      have hP9 := hP.sub (ws' := []) [] rfl
      have hD9 := hD.sub (ws' := []) [] (by decide) rfl
      exact W.zret (ty := .boolean) (v := 0) hx hb hr (rfl) (fun T9 hT9 hW9 => ⟨⟨0, (), rfl, by simp [sw_b, sw_up1, c_1, c_5], by rw [hT9]; exact hP9, hD9⟩, hS.F hT9⟩) hS.2.2 d_Cr_isUpToOne_35
    · skip
      refine lv_iload_n hx hb d_Cr_isUpToOne_8 rfl (lv_at hl 0 rfl) ?_
      refine lv_iload_n hx hb d_Cr_isUpToOne_9 rfl (lv_at hl 1 rfl) ?_
      refine lv_icmp_gt (tgt := 17) hx hb d_Cr_isUpToOne_10 (by decide) (fun c_10 => ?_) (fun c_10 => ?_)
      · skip
        refine lv_iconst (v := 0) hx hb d_Cr_isUpToOne_17 (by decide) ?_
        refine lv_goto (tgt := 35) hx hb d_Cr_isUpToOne_18 (by decide) ?_
        have hP9 := hP.sub (ws' := []) [] rfl
        have hD9 := hD.sub (ws' := []) [] (by decide) rfl
        exact W.zret (ty := .boolean) (v := 0) hx hb hr (rfl) (fun T9 hT9 hW9 => ⟨⟨0, (), rfl, by simp [sw_b, sw_up1, c_1, c_5, c_10], by rw [hT9]; exact hP9, hD9⟩, hS.F hT9⟩) hS.2.2 d_Cr_isUpToOne_35
      · skip
        refine lv_iconst (v := 1) hx hb d_Cr_isUpToOne_13 (by decide) ?_
        refine lv_goto (tgt := 35) hx hb d_Cr_isUpToOne_14 (by decide) ?_
        have hP9 := hP.sub (ws' := []) [] rfl
        have hD9 := hD.sub (ws' := []) [] (by decide) rfl
        exact W.zret (ty := .boolean) (v := 1) hx hb hr (rfl) (fun T9 hT9 hW9 => ⟨⟨1, (), rfl, by simp [sw_b, sw_up1, c_1, c_5, c_10], by rw [hT9]; exact hP9, hD9⟩, hS.F hT9⟩) hS.2.2 d_Cr_isUpToOne_35

abbrev rm_Cr_isFarther : Room := { frames := 1, cells := 0, slots := 0, locals := 15 }
abbrev q_Cr_isFarther (D : va_G) (cI cL : ClassId) (A : Nat → Prop) (k : Nat) (x : Int32) (y : Int32) (k1 : Nat) (k2 : Nat) (k3 : Nat) (nk : Int32) (fs : Int32) (pp : Nat → Int32) (qq : Nat → Int32) : Array Value → State → Outcome → State → Prop := va_Qi (S := Unit) (fun (r : Int32) => fun (_ : Unit) => r = sw_b (sw_far pp qq x.toNatClampNeg y.toNatClampNeg)) (sw_R D A (fun (_ : Unit) => [(k, .inr (4, [.ref k1, .ref k2, .ref k3, .int nk, .int fs])), (k2, .inl (cI, 64, .inl pp)), (k3, .inl (cI, 64, .inl qq))])) A
set_option maxHeartbeats 4000000 in
set_option maxRecDepth 100000 in
theorem c_Cr_isFarther (l : Launch) (D : va_G) (cI cL : ClassId) (tq sz : Nat) (k : Nat) (x : Int32) (y : Int32) (k1 : Nat) (k2 : Nat) (k3 : Nat) (nk : Int32) (fs : Int32) (pp : Nat → Int32) (qq : Nat → Int32) (ix : vp_in x 64) (iy : vp_in y 64) : Met l y_Cr_isFarther w_Cr_isFarther rm_Cr_isFarther (va_Pc [.ref k, .int x, .int y] (sw_B D cI cL tq sz [(k, .inr (4, [.ref k1, .ref k2, .ref k3, .int nk, .int fs])), (k2, .inl (cI, 64, .inl pp)), (k3, .inl (cI, 64, .inl qq))])) (q_Cr_isFarther D cI cL (va_A [(k, .inr (4, [.ref k1, .ref k2, .ref k3, .int nk, .int fs])), (k2, .inl (cI, 64, .inl pp)), (k3, .inl (cI, 64, .inl qq))] sz) k x y k1 k2 k3 nk fs pp qq) 0 0 (va_A [(k, .inr (4, [.ref k1, .ref k2, .ref k3, .int nk, .int fs])), (k2, .inl (cI, 64, .inl pp)), (k3, .inl (cI, 64, .inl qq))] sz) := by
  refine Met.ofW (cc := b_Cr_isFarther) (maxL := 7) (ret := (some .boolean)) (by decide) rfl ?_
  intro mp me s mm args below meth mk s₁ B hml hv
  obtain ⟨rfl, hsz, hP, hK, hD0, hG⟩ := hv
  have hx := B.exec
  have hb := B.bytes
  have hr := B.returns
  have hts := atoms_spec (ws := w_Cr_isFarther) B.pre
  have hw : ∀ w ∈ sw_words, w.before _ s = true := fun w h => hts w (List.mem_cons_of_mem _ h)
  have hown : s.vm.findClass R_Cr = some mm.cls := findClass_of_methodNamed B.named
  have hlocks := B.notSynchronized
  subst hsz
  have hD := hD0.self (sz := s.heap.size)
  generalize hAe : va_A [(k, .inr (4, [.ref k1, .ref k2, .ref k3, .int nk, .int fs])), (k2, .inl (cI, 64, .inl pp)), (k3, .inl (cI, 64, .inl qq))] s.heap.size = A at hD hG ⊢
  have hA : ∀ q : Nat, s.heap.size ≤ q → A q := fun q h => by rw [← hAe]; exact Or.inr h
  have hS : va_S A s.heap s.heap [] := va_S.rf
  have hl := lv_entry ([.ref k, .int x, .int y]) (n := 7) (Nat.le_of_ble_eq_true rfl)
  rw [lg_entry_eq]
  generalize (lg_sl ([.ref k, .int x, .int y]) ++ List.replicate (7 - (lg_sl ([.ref k, .int x, .int y])).length) Slot.unset).toArray = ls at hl ⊢
  have hl : lv_has ls 7 [(0, .ref k), (1, .int x), (2, .int y)] := hl
  refine lv_aload_n hx hb d_Cr_isFarther_0 rfl (lv_at hl 0 rfl) ?_
  refine va_get (D := D) (ci := 4) (v := .ref k2) (C := R_Cr) (T := F_Cr) (N := 5) hx hb hw ku_Cr hown hK hP 0 rfl rfl 1 (by decide) (hw _ kw_600bd2b2) (fun _ h9 => h9) rfl d_Cr_isFarther_1 ?_
  refine lv_iload_n hx hb d_Cr_isFarther_4 rfl (lv_at hl 1 rfl) ?_
  refine va_iald hx hb hK hP 1 0 rfl rfl (by assumption) d_Cr_isFarther_5 ?_
  refine va_mabs hx hb (hml.trans hl.1.symm) hown (hw _ kw_f084e442) (hw _ kw_09634540) (hw _ kw_0f7fb0a1) (hw _ kc_Math_abs) (Nat.le_of_ble_eq_true rfl) (Nat.le_of_ble_eq_true rfl) (Nat.le_of_ble_eq_true rfl) (Nat.le_of_ble_eq_true rfl) d_Cr_isFarther_6 ?_
  refine lv_i2l hx hb d_Cr_isFarther_9 rfl ?_
  refine lv_aload_n hx hb d_Cr_isFarther_10 rfl (lv_at hl 0 rfl) ?_
  refine va_get (D := D) (ci := 4) (v := .ref k3) (C := R_Cr) (T := F_Cr) (N := 5) hx hb hw ku_Cr hown hK hP 0 rfl rfl 2 (by decide) (hw _ kw_47a18be0) (fun _ h9 => h9) rfl d_Cr_isFarther_11 ?_
  refine lv_iload_n hx hb d_Cr_isFarther_14 rfl (lv_at hl 2 rfl) ?_
  refine va_iald hx hb hK hP 2 0 rfl rfl (by assumption) d_Cr_isFarther_15 ?_
  refine va_mabs hx hb (hml.trans hl.1.symm) hown (hw _ kw_f084e442) (hw _ kw_09634540) (hw _ kw_0f7fb0a1) (hw _ kc_Math_abs) (Nat.le_of_ble_eq_true rfl) (Nat.le_of_ble_eq_true rfl) (Nat.le_of_ble_eq_true rfl) (Nat.le_of_ble_eq_true rfl) d_Cr_isFarther_16 ?_
  refine lv_i2l hx hb d_Cr_isFarther_19 rfl ?_
  refine lv_lmul hx hb d_Cr_isFarther_20 ?_
  refine lv_lstore_n (lv' := [(3, .long (((sw_ab (pp x.toNatClampNeg)).toInt64) * ((sw_ab (qq y.toNatClampNeg)).toInt64))), (0, .ref k), (1, .int x), (2, .int y)]) hx hb d_Cr_isFarther_21 rfl hl (by decide) rfl (fun ls hl => ?_)
  refine lv_aload_n hx hb d_Cr_isFarther_22 rfl (lv_at hl 1 rfl) ?_
  refine va_get (D := D) (ci := 4) (v := .ref k2) (C := R_Cr) (T := F_Cr) (N := 5) hx hb hw ku_Cr hown hK hP 0 rfl rfl 1 (by decide) (hw _ kw_600bd2b2) (fun _ h9 => h9) rfl d_Cr_isFarther_23 ?_
  refine lv_iload_n hx hb d_Cr_isFarther_26 rfl (lv_at hl 3 rfl) ?_
  refine va_iald hx hb hK hP 1 0 rfl rfl (by assumption) d_Cr_isFarther_27 ?_
  refine va_mabs hx hb (hml.trans hl.1.symm) hown (hw _ kw_f084e442) (hw _ kw_09634540) (hw _ kw_0f7fb0a1) (hw _ kc_Math_abs) (Nat.le_of_ble_eq_true rfl) (Nat.le_of_ble_eq_true rfl) (Nat.le_of_ble_eq_true rfl) (Nat.le_of_ble_eq_true rfl) d_Cr_isFarther_28 ?_
  refine lv_i2l hx hb d_Cr_isFarther_31 rfl ?_
  refine lv_aload_n hx hb d_Cr_isFarther_32 rfl (lv_at hl 1 rfl) ?_
  refine va_get (D := D) (ci := 4) (v := .ref k3) (C := R_Cr) (T := F_Cr) (N := 5) hx hb hw ku_Cr hown hK hP 0 rfl rfl 2 (by decide) (hw _ kw_47a18be0) (fun _ h9 => h9) rfl d_Cr_isFarther_33 ?_
  refine lv_iload_n hx hb d_Cr_isFarther_36 rfl (lv_at hl 2 rfl) ?_
  refine va_iald hx hb hK hP 2 0 rfl rfl (by assumption) d_Cr_isFarther_37 ?_
  refine va_mabs hx hb (hml.trans hl.1.symm) hown (hw _ kw_f084e442) (hw _ kw_09634540) (hw _ kw_0f7fb0a1) (hw _ kc_Math_abs) (Nat.le_of_ble_eq_true rfl) (Nat.le_of_ble_eq_true rfl) (Nat.le_of_ble_eq_true rfl) (Nat.le_of_ble_eq_true rfl) d_Cr_isFarther_38 ?_
  refine lv_i2l hx hb d_Cr_isFarther_41 rfl ?_
  refine lv_lmul hx hb d_Cr_isFarther_42 ?_
  refine lv_lstore (lv' := [(5, .long (((sw_ab (pp y.toNatClampNeg)).toInt64) * ((sw_ab (qq x.toNatClampNeg)).toInt64))), (3, .long (((sw_ab (pp x.toNatClampNeg)).toInt64) * ((sw_ab (qq y.toNatClampNeg)).toInt64))), (0, .ref k), (1, .int x), (2, .int y)]) hx hb d_Cr_isFarther_43 hl (by decide) rfl (fun ls hl => ?_)
  refine lv_lload_n hx hb d_Cr_isFarther_45 rfl (lv_at hl 1 rfl) ?_
  refine lv_lload hx hb d_Cr_isFarther_46 (lv_at hl 0 rfl) ?_
  refine W.lcmp hx hb d_Cr_isFarther_48 ?_
  refine lv_if_le (tgt := 56) hx hb d_Cr_isFarther_49 (by decide) (fun c_49 => ?_) (fun c_49 => ?_)
  · skip
    replace c_49 : ((lg_cmp (((sw_ab (pp x.toNatClampNeg)).toInt64) * ((sw_ab (qq y.toNatClampNeg)).toInt64)) (((sw_ab (pp y.toNatClampNeg)).toInt64) * ((sw_ab (qq x.toNatClampNeg)).toInt64))) ≤ 0) := c_49
    refine lv_iconst (v := 0) hx hb d_Cr_isFarther_56 (by decide) ?_
    have hP9 := hP.sub (ws' := [(k, .inr (4, [.ref k1, .ref k2, .ref k3, .int nk, .int fs])), (k2, .inl (cI, 64, .inl pp)), (k3, .inl (cI, 64, .inl qq))]) [0, 1, 2] rfl
    have hD9 := hD.sub (ws' := [(k, .inr (4, [.ref k1, .ref k2, .ref k3, .int nk, .int fs])), (k2, .inl (cI, 64, .inl pp)), (k3, .inl (cI, 64, .inl qq))]) [0, 1, 2] (by decide) rfl
    exact W.zret (ty := .boolean) (v := 0) hx hb hr (rfl) (fun T9 hT9 hW9 => ⟨⟨0, (), rfl, by simp [sw_b, sw_far, c_49], by rw [hT9]; exact hP9, hD9⟩, hS.F hT9⟩) hS.2.2 d_Cr_isFarther_57
  · skip
    replace c_49 : ¬ ((lg_cmp (((sw_ab (pp x.toNatClampNeg)).toInt64) * ((sw_ab (qq y.toNatClampNeg)).toInt64)) (((sw_ab (pp y.toNatClampNeg)).toInt64) * ((sw_ab (qq x.toNatClampNeg)).toInt64))) ≤ 0) := c_49
    refine lv_iconst (v := 1) hx hb d_Cr_isFarther_52 (by decide) ?_
    refine lv_goto (tgt := 57) hx hb d_Cr_isFarther_53 (by decide) ?_
    have hP9 := hP.sub (ws' := [(k, .inr (4, [.ref k1, .ref k2, .ref k3, .int nk, .int fs])), (k2, .inl (cI, 64, .inl pp)), (k3, .inl (cI, 64, .inl qq))]) [0, 1, 2] rfl
    have hD9 := hD.sub (ws' := [(k, .inr (4, [.ref k1, .ref k2, .ref k3, .int nk, .int fs])), (k2, .inl (cI, 64, .inl pp)), (k3, .inl (cI, 64, .inl qq))]) [0, 1, 2] (by decide) rfl
    exact W.zret (ty := .boolean) (v := 1) hx hb hr (rfl) (fun T9 hT9 hW9 => ⟨⟨1, (), rfl, by simp [sw_b, sw_far, c_49], by rw [hT9]; exact hP9, hD9⟩, hS.F hT9⟩) hS.2.2 d_Cr_isFarther_57

abbrev rm_Cr_sectorBehind : Room := { frames := 1, cells := 0, slots := 0, locals := 21 }
abbrev q_Cr_sectorBehind (D : va_G) (cI cL : ClassId) (A : Nat → Prop) (k : Nat) (p : Nat) (x : Int32) (k1 : Nat) (k2 : Nat) (k3 : Nat) (nk : Int32) (fs : Int32) (od : Nat → Int32) (pp : Nat → Int32) (pX : Nat) (pY : Nat) (pF : Nat) (pC : Nat) (pA : Nat) (pB : Nat) (pR : Nat) (pK : Nat) (nv : Int32) (ns : Int32) (nw : Int32) (fr : Nat → Int32) (bk : Nat → Int32) : Array Value → State → Outcome → State → Prop := va_Qi (S := Unit) (fun (r : Int32) => fun (_ : Unit) => r = if nk = 0 then x else if 0 ≤ pp (od (nk - 1).toNatClampNeg).toNatClampNeg then fr (od (nk - 1).toNatClampNeg).toNatClampNeg else bk (od (nk - 1).toNatClampNeg).toNatClampNeg) (sw_R D A (fun (_ : Unit) => [(k, .inr (4, [.ref k1, .ref k2, .ref k3, .int nk, .int fs])), (k1, .inl (cI, 64, .inl od)), (k2, .inl (cI, 64, .inl pp)), (p, .inr (1, [.ref pX, .ref pY, .ref pF, .ref pC, .ref pA, .ref pB, .ref pR, .ref pK, .int nv, .int ns, .int nw])), (pR, .inl (cI, 64, .inl fr)), (pK, .inl (cI, 64, .inl bk))])) A
set_option maxHeartbeats 4000000 in
set_option maxRecDepth 100000 in
theorem c_Cr_sectorBehind (l : Launch) (D : va_G) (cI cL : ClassId) (tq sz : Nat) (k : Nat) (p : Nat) (x : Int32) (k1 : Nat) (k2 : Nat) (k3 : Nat) (nk : Int32) (fs : Int32) (od : Nat → Int32) (pp : Nat → Int32) (pX : Nat) (pY : Nat) (pF : Nat) (pC : Nat) (pA : Nat) (pB : Nat) (pR : Nat) (pK : Nat) (nv : Int32) (ns : Int32) (nw : Int32) (fr : Nat → Int32) (bk : Nat → Int32) (hn : sw_ok nk 64) (he : ¬ nk = 0 → vp_in (od (nk - 1).toNatClampNeg) 64) : Met l y_Cr_sectorBehind w_Cr_sectorBehind rm_Cr_sectorBehind (va_Pc [.ref k, .ref p, .int x] (sw_B D cI cL tq sz [(k, .inr (4, [.ref k1, .ref k2, .ref k3, .int nk, .int fs])), (k1, .inl (cI, 64, .inl od)), (k2, .inl (cI, 64, .inl pp)), (p, .inr (1, [.ref pX, .ref pY, .ref pF, .ref pC, .ref pA, .ref pB, .ref pR, .ref pK, .int nv, .int ns, .int nw])), (pR, .inl (cI, 64, .inl fr)), (pK, .inl (cI, 64, .inl bk))])) (q_Cr_sectorBehind D cI cL (va_A [(k, .inr (4, [.ref k1, .ref k2, .ref k3, .int nk, .int fs])), (k1, .inl (cI, 64, .inl od)), (k2, .inl (cI, 64, .inl pp)), (p, .inr (1, [.ref pX, .ref pY, .ref pF, .ref pC, .ref pA, .ref pB, .ref pR, .ref pK, .int nv, .int ns, .int nw])), (pR, .inl (cI, 64, .inl fr)), (pK, .inl (cI, 64, .inl bk))] sz) k p x k1 k2 k3 nk fs od pp pX pY pF pC pA pB pR pK nv ns nw fr bk) 0 0 (va_A [(k, .inr (4, [.ref k1, .ref k2, .ref k3, .int nk, .int fs])), (k1, .inl (cI, 64, .inl od)), (k2, .inl (cI, 64, .inl pp)), (p, .inr (1, [.ref pX, .ref pY, .ref pF, .ref pC, .ref pA, .ref pB, .ref pR, .ref pK, .int nv, .int ns, .int nw])), (pR, .inl (cI, 64, .inl fr)), (pK, .inl (cI, 64, .inl bk))] sz) := by
  refine Met.ofW (cc := b_Cr_sectorBehind) (maxL := 4) (ret := (some .int)) (by decide) rfl ?_
  intro mp me s mm args below meth mk s₁ B hml hv
  obtain ⟨rfl, hsz, hP, hK, hD0, hG⟩ := hv
  have hx := B.exec
  have hb := B.bytes
  have hr := B.returns
  have hts := atoms_spec (ws := w_Cr_sectorBehind) B.pre
  have hw : ∀ w ∈ sw_words, w.before _ s = true := fun w h => hts w (List.mem_cons_of_mem _ h)
  have hown : s.vm.findClass R_Cr = some mm.cls := findClass_of_methodNamed B.named
  have hlocks := B.notSynchronized
  subst hsz
  have hD := hD0.self (sz := s.heap.size)
  generalize hAe : va_A [(k, .inr (4, [.ref k1, .ref k2, .ref k3, .int nk, .int fs])), (k1, .inl (cI, 64, .inl od)), (k2, .inl (cI, 64, .inl pp)), (p, .inr (1, [.ref pX, .ref pY, .ref pF, .ref pC, .ref pA, .ref pB, .ref pR, .ref pK, .int nv, .int ns, .int nw])), (pR, .inl (cI, 64, .inl fr)), (pK, .inl (cI, 64, .inl bk))] s.heap.size = A at hD hG ⊢
  have hA : ∀ q : Nat, s.heap.size ≤ q → A q := fun q h => by rw [← hAe]; exact Or.inr h
  have hS : va_S A s.heap s.heap [] := va_S.rf
  have hl := lv_entry ([.ref k, .ref p, .int x]) (n := 4) (Nat.le_of_ble_eq_true rfl)
  rw [lg_entry_eq]
  generalize (lg_sl ([.ref k, .ref p, .int x]) ++ List.replicate (4 - (lg_sl ([.ref k, .ref p, .int x])).length) Slot.unset).toArray = ls at hl ⊢
  have hl : lv_has ls 4 [(0, .ref k), (1, .ref p), (2, .int x)] := hl
  refine lv_aload_n hx hb d_Cr_sectorBehind_0 rfl (lv_at hl 0 rfl) ?_
  refine va_get (D := D) (ci := 4) (v := .int nk) (C := R_Cr) (T := F_Cr) (N := 5) hx hb hw ku_Cr hown hK hP 0 rfl rfl 3 (by decide) (hw _ kw_7f5cc8e8) (fun _ h9 => h9) rfl d_Cr_sectorBehind_1 ?_
  refine lv_if_ne (tgt := 9) hx hb d_Cr_sectorBehind_4 (by decide) (fun c_4 => ?_) (fun c_4 => ?_)
  · skip
    have hm := sw_okm1 hn (by decide) c_4
    have hj := he c_4
    refine lv_aload_n hx hb d_Cr_sectorBehind_9 rfl (lv_at hl 0 rfl) ?_
    refine va_get (D := D) (ci := 4) (v := .ref k1) (C := R_Cr) (T := F_Cr) (N := 5) hx hb hw ku_Cr hown hK hP 0 rfl rfl 0 (by decide) (hw _ kw_053bb905) (fun _ h9 => h9) rfl d_Cr_sectorBehind_10 ?_
    refine lv_aload_n hx hb d_Cr_sectorBehind_13 rfl (lv_at hl 0 rfl) ?_
    refine va_get (D := D) (ci := 4) (v := .int nk) (C := R_Cr) (T := F_Cr) (N := 5) hx hb hw ku_Cr hown hK hP 0 rfl rfl 3 (by decide) (hw _ kw_7f5cc8e8) (fun _ h9 => h9) rfl d_Cr_sectorBehind_14 ?_
    refine lv_iconst (v := 1) hx hb d_Cr_sectorBehind_17 (by decide) ?_
    refine lv_isub hx hb d_Cr_sectorBehind_18 ?_
    refine va_iald hx hb hK hP 1 0 rfl rfl (by assumption) d_Cr_sectorBehind_19 ?_
    refine lv_istore_n (lv' := [(3, .int (od (nk - 1).toNatClampNeg)), (0, .ref k), (1, .ref p), (2, .int x)]) hx hb d_Cr_sectorBehind_20 rfl hl (by decide) rfl (fun ls hl => ?_)
    refine lv_aload_n hx hb d_Cr_sectorBehind_21 rfl (lv_at hl 1 rfl) ?_
    refine lv_iload_n hx hb d_Cr_sectorBehind_22 rfl (lv_at hl 0 rfl) ?_
    refine sw_ki0 (wr := [(k1, .inl (cI, 64, .inl od)), (p, .inr (1, [.ref pX, .ref pY, .ref pF, .ref pC, .ref pA, .ref pB, .ref pR, .ref pK, .int nv, .int ns, .int nw])), (pR, .inl (cI, 64, .inl fr)), (pK, .inl (cI, 64, .inl bk))]) (va_runV (As := [.int (od (nk - 1).toNatClampNeg)]) (rest := []) ⟨hx, hb, hml, hown, hw⟩ (c_Cr_comesFromFront l D cI cL tq _ k (od (nk - 1).toNatClampNeg) k1 k2 k3 nk fs pp (by assumption)) (cwV 1 hw (sw_gV kw_53f2f32e kw_fc808330 kw_c20cbe3c kw_7f626125 kc_Cr_comesFromFront) rfl rfl rfl ⟨rfl, yd_Cr_comesFromFront⟩ ⟨Nat.le_of_ble_eq_true rfl, Nat.le_of_ble_eq_true rfl⟩) (sw_preV hK hP hD hS hA hG [0, 2] rfl (by decide) 4 0 rfl rfl) rfl rfl hl.1 rfl (lv_room (Nat.le_of_ble_eq_true rfl)) d_Cr_sectorBehind_23 ⟨Nat.le_of_ble_eq_true rfl, Nat.le_of_ble_eq_true rfl⟩) hP hD hS hA [0, 2] [1, 3, 4, 5] rfl rfl (by decide) (by decide) (fun r_23 _ H locs hp_23 hP hD hS => ?_)
    replace hP : va_P D sw_cl [(k1, .inl (cI, 64, .inl od)), (p, .inr (1, [.ref pX, .ref pY, .ref pF, .ref pC, .ref pA, .ref pB, .ref pR, .ref pK, .int nv, .int ns, .int nw])), (pR, .inl (cI, 64, .inl fr)), (pK, .inl (cI, 64, .inl bk)), (k, .inr (4, [.ref k1, .ref k2, .ref k3, .int nk, .int fs])), (k2, .inl (cI, 64, .inl pp))] H := hP
    replace hD : va_D A [(k1, .inl (cI, 64, .inl od)), (p, .inr (1, [.ref pX, .ref pY, .ref pF, .ref pC, .ref pA, .ref pB, .ref pR, .ref pK, .int nv, .int ns, .int nw])), (pR, .inl (cI, 64, .inl fr)), (pK, .inl (cI, 64, .inl bk)), (k, .inr (4, [.ref k1, .ref k2, .ref k3, .int nk, .int fs])), (k2, .inl (cI, 64, .inl pp))] := hD
    try dsimp only at hp_23
    subst hp_23
    refine lv_if_eq (tgt := 38) hx hb d_Cr_sectorBehind_26 (by decide) (fun c_26 => ?_) (fun c_26 => ?_)
    · skip
      replace c_26 := sw_b0.mp c_26
      refine lv_aload_n hx hb d_Cr_sectorBehind_38 rfl (lv_at hl 2 rfl) ?_
      refine va_get (D := D) (ci := 1) (v := .ref pR) (C := R_Pl) (T := F_Pl) (N := 11) hx hb hw ku_Pl hown hK hP 1 rfl rfl 6 (by decide) (hw _ kw_d6cc6d58) (fun _ h9 => h9) rfl d_Cr_sectorBehind_39 ?_
      refine lv_iload_n hx hb d_Cr_sectorBehind_42 rfl (lv_at hl 0 rfl) ?_
      refine va_iald hx hb hK hP 2 0 rfl rfl (by assumption) d_Cr_sectorBehind_43 ?_
      have hP9 := hP.sub (ws' := [(k, .inr (4, [.ref k1, .ref k2, .ref k3, .int nk, .int fs])), (k1, .inl (cI, 64, .inl od)), (k2, .inl (cI, 64, .inl pp)), (p, .inr (1, [.ref pX, .ref pY, .ref pF, .ref pC, .ref pA, .ref pB, .ref pR, .ref pK, .int nv, .int ns, .int nw])), (pR, .inl (cI, 64, .inl fr)), (pK, .inl (cI, 64, .inl bk))]) [4, 0, 5, 1, 2, 3] rfl
      have hD9 := hD.sub (ws' := [(k, .inr (4, [.ref k1, .ref k2, .ref k3, .int nk, .int fs])), (k1, .inl (cI, 64, .inl od)), (k2, .inl (cI, 64, .inl pp)), (p, .inr (1, [.ref pX, .ref pY, .ref pF, .ref pC, .ref pA, .ref pB, .ref pR, .ref pK, .int nv, .int ns, .int nw])), (pR, .inl (cI, 64, .inl fr)), (pK, .inl (cI, 64, .inl bk))]) [4, 0, 5, 1, 2, 3] (by decide) rfl
      exact W.iret (v := fr (od (nk - 1).toNatClampNeg).toNatClampNeg) hx hb hr (fun T9 hT9 hW9 => ⟨⟨fr (od (nk - 1).toNatClampNeg).toNatClampNeg, (), rfl, by rw [if_neg c_4]; first | rw [if_pos (of_decide_eq_true (by simpa using c_26))] | rw [if_neg (of_decide_eq_false (by simpa using c_26))], by rw [hT9]; exact hP9, hD9⟩, hS.F hT9⟩) hS.2.2 d_Cr_sectorBehind_44
    · skip
      replace c_26 := sw_bn.mp c_26
      refine lv_aload_n hx hb d_Cr_sectorBehind_29 rfl (lv_at hl 2 rfl) ?_
      refine va_get (D := D) (ci := 1) (v := .ref pK) (C := R_Pl) (T := F_Pl) (N := 11) hx hb hw ku_Pl hown hK hP 1 rfl rfl 7 (by decide) (hw _ kw_20b713e0) (fun _ h9 => h9) rfl d_Cr_sectorBehind_30 ?_
      refine lv_iload_n hx hb d_Cr_sectorBehind_33 rfl (lv_at hl 0 rfl) ?_
      refine va_iald hx hb hK hP 3 0 rfl rfl (by assumption) d_Cr_sectorBehind_34 ?_
      refine lv_goto (tgt := 44) hx hb d_Cr_sectorBehind_35 (by decide) ?_
      have hP9 := hP.sub (ws' := [(k, .inr (4, [.ref k1, .ref k2, .ref k3, .int nk, .int fs])), (k1, .inl (cI, 64, .inl od)), (k2, .inl (cI, 64, .inl pp)), (p, .inr (1, [.ref pX, .ref pY, .ref pF, .ref pC, .ref pA, .ref pB, .ref pR, .ref pK, .int nv, .int ns, .int nw])), (pR, .inl (cI, 64, .inl fr)), (pK, .inl (cI, 64, .inl bk))]) [4, 0, 5, 1, 2, 3] rfl
      have hD9 := hD.sub (ws' := [(k, .inr (4, [.ref k1, .ref k2, .ref k3, .int nk, .int fs])), (k1, .inl (cI, 64, .inl od)), (k2, .inl (cI, 64, .inl pp)), (p, .inr (1, [.ref pX, .ref pY, .ref pF, .ref pC, .ref pA, .ref pB, .ref pR, .ref pK, .int nv, .int ns, .int nw])), (pR, .inl (cI, 64, .inl fr)), (pK, .inl (cI, 64, .inl bk))]) [4, 0, 5, 1, 2, 3] (by decide) rfl
      exact W.iret (v := bk (od (nk - 1).toNatClampNeg).toNatClampNeg) hx hb hr (fun T9 hT9 hW9 => ⟨⟨bk (od (nk - 1).toNatClampNeg).toNatClampNeg, (), rfl, by rw [if_neg c_4]; first | rw [if_pos (of_decide_eq_true (by simpa using c_26))] | rw [if_neg (of_decide_eq_false (by simpa using c_26))], by rw [hT9]; exact hP9, hD9⟩, hS.F hT9⟩) hS.2.2 d_Cr_sectorBehind_44
  · skip
    refine lv_iload_n hx hb d_Cr_sectorBehind_7 rfl (lv_at hl 2 rfl) ?_
    have hP9 := hP.sub (ws' := [(k, .inr (4, [.ref k1, .ref k2, .ref k3, .int nk, .int fs])), (k1, .inl (cI, 64, .inl od)), (k2, .inl (cI, 64, .inl pp)), (p, .inr (1, [.ref pX, .ref pY, .ref pF, .ref pC, .ref pA, .ref pB, .ref pR, .ref pK, .int nv, .int ns, .int nw])), (pR, .inl (cI, 64, .inl fr)), (pK, .inl (cI, 64, .inl bk))]) [0, 1, 2, 3, 4, 5] rfl
    have hD9 := hD.sub (ws' := [(k, .inr (4, [.ref k1, .ref k2, .ref k3, .int nk, .int fs])), (k1, .inl (cI, 64, .inl od)), (k2, .inl (cI, 64, .inl pp)), (p, .inr (1, [.ref pX, .ref pY, .ref pF, .ref pC, .ref pA, .ref pB, .ref pR, .ref pK, .int nv, .int ns, .int nw])), (pR, .inl (cI, 64, .inl fr)), (pK, .inl (cI, 64, .inl bk))]) [0, 1, 2, 3, 4, 5] (by decide) rfl
    exact W.iret (v := x) hx hb hr (fun T9 hT9 hW9 => ⟨⟨x, (), rfl, by simp [c_4], by rw [hT9]; exact hP9, hD9⟩, hS.F hT9⟩) hS.2.2 d_Cr_sectorBehind_8

abbrev rm_Cr_insert : Room := { frames := 2, cells := 0, slots := 0, locals := 41 }
abbrev q_Cr_insert (D : va_G) (cI cL : ClassId) (A : Nat → Prop) (k : Nat) (x : Int32) (k1 : Nat) (k2 : Nat) (k3 : Nat) (nk : Int32) (fs : Int32) (od : Nat → Int32) (pp : Nat → Int32) (qq : Nat → Int32) : Array Value → State → Outcome → State → Prop := va_Qv (S := (Nat → Int32)) (fun (od2 : Nat → Int32) => od2 = sw_insf (fun v => sw_far pp qq v.toNatClampNeg x.toNatClampNeg) x nk.toNatClampNeg od) (sw_R D A (fun (od2 : Nat → Int32) => [(k, .inr (4, [.ref k1, .ref k2, .ref k3, .int (nk + 1), .int fs])), (k1, .inl (cI, 64, .inl od2)), (k2, .inl (cI, 64, .inl pp)), (k3, .inl (cI, 64, .inl qq))])) A
set_option maxHeartbeats 4000000 in
set_option maxRecDepth 100000 in
theorem c_Cr_insert (l : Launch) (D : va_G) (cI cL : ClassId) (tq sz : Nat) (k : Nat) (x : Int32) (k1 : Nat) (k2 : Nat) (k3 : Nat) (nk : Int32) (fs : Int32) (od : Nat → Int32) (pp : Nat → Int32) (qq : Nat → Int32) (hn : sw_ok nk 63) (ix : vp_in x 64) (hv : ∀ j : Nat, j < nk.toNatClampNeg → vp_in (od j) 64) : Met l y_Cr_insert w_Cr_insert rm_Cr_insert (va_Pc [.ref k, .int x] (sw_B D cI cL tq sz [(k, .inr (4, [.ref k1, .ref k2, .ref k3, .int nk, .int fs])), (k1, .inl (cI, 64, .inl od)), (k2, .inl (cI, 64, .inl pp)), (k3, .inl (cI, 64, .inl qq))])) (q_Cr_insert D cI cL (va_A [(k, .inr (4, [.ref k1, .ref k2, .ref k3, .int nk, .int fs])), (k1, .inl (cI, 64, .inl od)), (k2, .inl (cI, 64, .inl pp)), (k3, .inl (cI, 64, .inl qq))] sz) k x k1 k2 k3 nk fs od pp qq) 0 0 (va_A [(k, .inr (4, [.ref k1, .ref k2, .ref k3, .int nk, .int fs])), (k1, .inl (cI, 64, .inl od)), (k2, .inl (cI, 64, .inl pp)), (k3, .inl (cI, 64, .inl qq))] sz) := by
  refine Met.ofW (cc := b_Cr_insert) (maxL := 3) (ret := none) (by decide) rfl ?_
  intro mp me s mm args below meth mk s₁ B hml hv
  obtain ⟨rfl, hsz, hP, hK, hD0, hG⟩ := hv
  have hx := B.exec
  have hb := B.bytes
  have hr := B.returns
  have hts := atoms_spec (ws := w_Cr_insert) B.pre
  have hw : ∀ w ∈ sw_words, w.before _ s = true := fun w h => hts w (List.mem_cons_of_mem _ h)
  have hown : s.vm.findClass R_Cr = some mm.cls := findClass_of_methodNamed B.named
  have hlocks := B.notSynchronized
  subst hsz
  have hD := hD0.self (sz := s.heap.size)
  generalize hAe : va_A [(k, .inr (4, [.ref k1, .ref k2, .ref k3, .int nk, .int fs])), (k1, .inl (cI, 64, .inl od)), (k2, .inl (cI, 64, .inl pp)), (k3, .inl (cI, 64, .inl qq))] s.heap.size = A at hD hG ⊢
  have hA : ∀ q : Nat, s.heap.size ≤ q → A q := fun q h => by rw [← hAe]; exact Or.inr h
  have hS : va_S A s.heap s.heap [] := va_S.rf
  have hl := lv_entry ([.ref k, .int x]) (n := 3) (Nat.le_of_ble_eq_true rfl)
  rw [lg_entry_eq]
  generalize (lg_sl ([.ref k, .int x]) ++ List.replicate (3 - (lg_sl ([.ref k, .int x])).length) Slot.unset).toArray = ls at hl ⊢
  have hl : lv_has ls 3 [(0, .ref k), (1, .int x)] := hl
  have hn6 := hn.2
  refine lv_aload_n hx hb d_Cr_insert_0 rfl (lv_at hl 0 rfl) ?_
  refine va_get (D := D) (ci := 4) (v := .int nk) (C := R_Cr) (T := F_Cr) (N := 5) hx hb hw ku_Cr hown hK hP 0 rfl rfl 3 (by decide) (hw _ kw_7f5cc8e8) (fun _ h9 => h9) rfl d_Cr_insert_1 ?_
  refine lv_istore_n (lv' := [(2, .int nk), (0, .ref k), (1, .int x)]) hx hb d_Cr_insert_4 rfl hl (by decide) rfl (fun ls hl => ?_)
  have lp_5 : ∀ (n : Nat) (q : Nat) (i : Int32) (f : Nat → Int32) (H : Heap) (locs : List Loc) (ls : Array Slot), (i = nI q) → (q ≤ nk.toNatClampNeg) → (∀ j : Nat, j < q → f j = od j) → (sw_insf (fun v => sw_far pp qq v.toNatClampNeg x.toNatClampNeg) x q f = sw_insf (fun v => sw_far pp qq v.toNatClampNeg x.toNatClampNeg) x nk.toNatClampNeg od) → q < n → va_P D sw_cl [(k, .inr (4, [.ref k1, .ref k2, .ref k3, .int nk, .int fs])), (k1, .inl (cI, 64, .inl f)), (k2, .inl (cI, 64, .inl pp)), (k3, .inl (cI, 64, .inl qq))] H → va_D A [(k, .inr (4, [.ref k1, .ref k2, .ref k3, .int nk, .int fs])), (k1, .inl (cI, 64, .inl f)), (k2, .inl (cI, 64, .inl pp)), (k3, .inl (cI, 64, .inl qq))] → va_S A s.heap H locs → lv_has ls 3 [(0, .ref k), (1, .int x), (2, .int i)] → W mp l me (headSpec w_Cr_insert rm_Cr_insert).room s mm ([.ref k, .int x]).toArray below meth mk H locs 0 0 (MQ below (q_Cr_insert D cI cL A k x k1 k2 k3 nk fs od pp qq) ([.ref k, .int x]).toArray s 0 0 A) (F0 mm 5 ls []) := by
    intro n
    induction n with
    | zero => intro q i f H locs ls hi hq hf hs hm; exact absurd hm (Nat.not_lt_zero _)
    | succ n ih_5 =>
      intro q i f H locs ls hi hq hf hs hm hP hD hS hl
      refine lv_iload_n hx hb d_Cr_insert_5 rfl (lv_at hl 2 rfl) ?_
      refine lv_if_le (tgt := 45) hx hb d_Cr_insert_6 (by decide) (fun c_6 => ?_) (fun c_6 => ?_)
      · skip
        have hin2 : vp_in i 64 := by rw [hi]; exact vp_in_nI (by omega) (by omega)
        refine lv_aload_n hx hb d_Cr_insert_45 rfl (lv_at hl 0 rfl) ?_
        refine va_get (D := D) (ci := 4) (v := .ref k1) (C := R_Cr) (T := F_Cr) (N := 5) hx hb hw ku_Cr hown hK hP 0 rfl rfl 0 (by decide) (hw _ kw_053bb905) (fun _ h9 => h9) rfl d_Cr_insert_46 ?_
        refine lv_iload_n hx hb d_Cr_insert_49 rfl (lv_at hl 2 rfl) ?_
        refine lv_iload_n hx hb d_Cr_insert_50 rfl (lv_at hl 1 rfl) ?_
        refine va_iast hx hb hK hP hD hS 1 0 rfl rfl (by assumption) d_Cr_insert_51 (fun H locs hP hD hS => ?_)
        replace hP : va_P D sw_cl [(k, .inr (4, [.ref k1, .ref k2, .ref k3, .int nk, .int fs])), (k1, .inl (cI, 64, .inl (upd f i.toNatClampNeg x))), (k2, .inl (cI, 64, .inl pp)), (k3, .inl (cI, 64, .inl qq))] H := hP
        replace hD : va_D A [(k, .inr (4, [.ref k1, .ref k2, .ref k3, .int nk, .int fs])), (k1, .inl (cI, 64, .inl (upd f i.toNatClampNeg x))), (k2, .inl (cI, 64, .inl pp)), (k3, .inl (cI, 64, .inl qq))] := hD
        refine lv_aload_n hx hb d_Cr_insert_52 rfl (lv_at hl 0 rfl) ?_
        refine lv_dup hx hb d_Cr_insert_53 rfl ?_
        refine va_get (D := D) (ci := 4) (v := .int nk) (C := R_Cr) (T := F_Cr) (N := 5) hx hb hw ku_Cr hown hK hP 0 rfl rfl 3 (by decide) (hw _ kw_7f5cc8e8) (fun _ h9 => h9) rfl d_Cr_insert_54 ?_
        refine lv_iconst (v := 1) hx hb d_Cr_insert_57 (by decide) ?_
        refine lv_iadd hx hb d_Cr_insert_58 ?_
        refine va_put (D := D) (ci := 4) (v := .int (nk + 1)) (ty := t_Cr 3) (C := R_Cr) (T := F_Cr) (N := 5) hx hb hw ku_Cr t_Cr t_Cr_ok n_Cr hown hK hP hD hS 0 rfl rfl 3 (by decide) (hw _ kw_7f5cc8e8) (fun _ h9 => h9) rfl (t_Cr_ok 3 (by decide)) rfl rfl (Nat.le_of_ble_eq_true rfl) d_Cr_insert_59 (fun H locs hP hD hS => ?_)
        replace hP : va_P D sw_cl [(k, .inr (4, [.ref k1, .ref k2, .ref k3, .int (nk + 1), .int fs])), (k1, .inl (cI, 64, .inl (upd f i.toNatClampNeg x))), (k2, .inl (cI, 64, .inl pp)), (k3, .inl (cI, 64, .inl qq))] H := hP
        replace hD : va_D A [(k, .inr (4, [.ref k1, .ref k2, .ref k3, .int (nk + 1), .int fs])), (k1, .inl (cI, 64, .inl (upd f i.toNatClampNeg x))), (k2, .inl (cI, 64, .inl pp)), (k3, .inl (cI, 64, .inl qq))] := hD
        have hP9 := hP.sub (ws' := [(k, .inr (4, [.ref k1, .ref k2, .ref k3, .int (nk + 1), .int fs])), (k1, .inl (cI, 64, .inl (upd f i.toNatClampNeg x))), (k2, .inl (cI, 64, .inl pp)), (k3, .inl (cI, 64, .inl qq))]) [0, 1, 2, 3] rfl
        have hD9 := hD.sub (ws' := [(k, .inr (4, [.ref k1, .ref k2, .ref k3, .int (nk + 1), .int fs])), (k1, .inl (cI, 64, .inl (upd f i.toNatClampNeg x))), (k2, .inl (cI, 64, .inl pp)), (k3, .inl (cI, 64, .inl qq))]) [0, 1, 2, 3] (by decide) rfl
        exact W.vret hx hb hr (fun T9 hT9 hW9 => ⟨⟨(upd f i.toNatClampNeg x), rfl, by first | trivial | (first | (obtain rfl := sw_zero hi (by omega) c_6; rw [← hs, hi, nI_clamp (by decide)]; rfl) | (rw [← hs, hi3]; rw [hi2] at c_22; simp [sw_insf, c_22])), by rw [hT9]; exact hP9, hD9⟩, hS.F hT9⟩) hS.2.2 d_Cr_insert_62
      · skip
        obtain ⟨z, rfl⟩ := sw_pos hi (by omega) c_6
        have hi1 : i - 1 = nI z := by rw [hi]; exact nI_pred z
        have hi2 : (i - 1).toNatClampNeg = z := by rw [hi1]; exact nI_clamp (by omega)
        have hi3 : i.toNatClampNeg = z + 1 := by rw [hi]; exact nI_clamp (by omega)
        have hfz : vp_in (f (i - 1).toNatClampNeg) 64 := by rw [hi2, hf z (by omega)]; exact hv z (by omega)
        have hin1 : vp_in (i - 1) 64 := by rw [hi1]; exact vp_in_nI (by omega) (by omega)
        have hin2 : vp_in i 64 := by rw [hi]; exact vp_in_nI (by omega) (by omega)
        refine lv_aload_n hx hb d_Cr_insert_9 rfl (lv_at hl 0 rfl) ?_
        refine lv_aload_n hx hb d_Cr_insert_10 rfl (lv_at hl 0 rfl) ?_
        refine va_get (D := D) (ci := 4) (v := .ref k1) (C := R_Cr) (T := F_Cr) (N := 5) hx hb hw ku_Cr hown hK hP 0 rfl rfl 0 (by decide) (hw _ kw_053bb905) (fun _ h9 => h9) rfl d_Cr_insert_11 ?_
        refine lv_iload_n hx hb d_Cr_insert_14 rfl (lv_at hl 2 rfl) ?_
        refine lv_iconst (v := 1) hx hb d_Cr_insert_15 (by decide) ?_
        refine lv_isub hx hb d_Cr_insert_16 ?_
        refine va_iald hx hb hK hP 1 0 rfl rfl (by assumption) d_Cr_insert_17 ?_
        refine lv_iload_n hx hb d_Cr_insert_18 rfl (lv_at hl 1 rfl) ?_
        refine sw_ki0 (wr := [(k1, .inl (cI, 64, .inl f))]) (va_runV (As := [.int (f (i - 1).toNatClampNeg), .int x]) (rest := []) ⟨hx, hb, hml, hown, hw⟩ (c_Cr_isFarther l D cI cL tq _ k (f (i - 1).toNatClampNeg) x k1 k2 k3 nk fs pp qq (by assumption) (by assumption)) (cwV 2 hw (sw_gV kw_1a4b003e kw_a1abe97f kw_f1434ec2 kw_7f626125 kc_Cr_isFarther) rfl rfl rfl ⟨rfl, yd_Cr_isFarther⟩ ⟨Nat.le_of_ble_eq_true rfl, Nat.le_of_ble_eq_true rfl⟩) (sw_preV hK hP hD hS hA hG [0, 2, 3] rfl (by decide) 4 0 rfl rfl) rfl rfl hl.1 rfl (lv_room (Nat.le_of_ble_eq_true rfl)) d_Cr_insert_19 ⟨Nat.le_of_ble_eq_true rfl, Nat.le_of_ble_eq_true rfl⟩) hP hD hS hA [0, 2, 3] [1] rfl rfl (by decide) (by decide) (fun r_19 _ H locs hp_19 hP hD hS => ?_)
        replace hP : va_P D sw_cl [(k1, .inl (cI, 64, .inl f)), (k, .inr (4, [.ref k1, .ref k2, .ref k3, .int nk, .int fs])), (k2, .inl (cI, 64, .inl pp)), (k3, .inl (cI, 64, .inl qq))] H := hP
        replace hD : va_D A [(k1, .inl (cI, 64, .inl f)), (k, .inr (4, [.ref k1, .ref k2, .ref k3, .int nk, .int fs])), (k2, .inl (cI, 64, .inl pp)), (k3, .inl (cI, 64, .inl qq))] := hD
        try dsimp only at hp_19
        subst hp_19
        refine lv_if_eq (tgt := 45) hx hb d_Cr_insert_22 (by decide) (fun c_22 => ?_) (fun c_22 => ?_)
        · skip
          replace c_22 := sw_b0.mp c_22
          have hin2 : vp_in i 64 := by rw [hi]; exact vp_in_nI (by omega) (by omega)
          refine lv_aload_n hx hb d_Cr_insert_45 rfl (lv_at hl 0 rfl) ?_
          refine va_get (D := D) (ci := 4) (v := .ref k1) (C := R_Cr) (T := F_Cr) (N := 5) hx hb hw ku_Cr hown hK hP 1 rfl rfl 0 (by decide) (hw _ kw_053bb905) (fun _ h9 => h9) rfl d_Cr_insert_46 ?_
          refine lv_iload_n hx hb d_Cr_insert_49 rfl (lv_at hl 2 rfl) ?_
          refine lv_iload_n hx hb d_Cr_insert_50 rfl (lv_at hl 1 rfl) ?_
          refine va_iast hx hb hK hP hD hS 0 0 rfl rfl (by assumption) d_Cr_insert_51 (fun H locs hP hD hS => ?_)
          replace hP : va_P D sw_cl [(k1, .inl (cI, 64, .inl (upd f i.toNatClampNeg x))), (k, .inr (4, [.ref k1, .ref k2, .ref k3, .int nk, .int fs])), (k2, .inl (cI, 64, .inl pp)), (k3, .inl (cI, 64, .inl qq))] H := hP
          replace hD : va_D A [(k1, .inl (cI, 64, .inl (upd f i.toNatClampNeg x))), (k, .inr (4, [.ref k1, .ref k2, .ref k3, .int nk, .int fs])), (k2, .inl (cI, 64, .inl pp)), (k3, .inl (cI, 64, .inl qq))] := hD
          refine lv_aload_n hx hb d_Cr_insert_52 rfl (lv_at hl 0 rfl) ?_
          refine lv_dup hx hb d_Cr_insert_53 rfl ?_
          refine va_get (D := D) (ci := 4) (v := .int nk) (C := R_Cr) (T := F_Cr) (N := 5) hx hb hw ku_Cr hown hK hP 1 rfl rfl 3 (by decide) (hw _ kw_7f5cc8e8) (fun _ h9 => h9) rfl d_Cr_insert_54 ?_
          refine lv_iconst (v := 1) hx hb d_Cr_insert_57 (by decide) ?_
          refine lv_iadd hx hb d_Cr_insert_58 ?_
          refine va_put (D := D) (ci := 4) (v := .int (nk + 1)) (ty := t_Cr 3) (C := R_Cr) (T := F_Cr) (N := 5) hx hb hw ku_Cr t_Cr t_Cr_ok n_Cr hown hK hP hD hS 1 rfl rfl 3 (by decide) (hw _ kw_7f5cc8e8) (fun _ h9 => h9) rfl (t_Cr_ok 3 (by decide)) rfl rfl (Nat.le_of_ble_eq_true rfl) d_Cr_insert_59 (fun H locs hP hD hS => ?_)
          replace hP : va_P D sw_cl [(k1, .inl (cI, 64, .inl (upd f i.toNatClampNeg x))), (k, .inr (4, [.ref k1, .ref k2, .ref k3, .int (nk + 1), .int fs])), (k2, .inl (cI, 64, .inl pp)), (k3, .inl (cI, 64, .inl qq))] H := hP
          replace hD : va_D A [(k1, .inl (cI, 64, .inl (upd f i.toNatClampNeg x))), (k, .inr (4, [.ref k1, .ref k2, .ref k3, .int (nk + 1), .int fs])), (k2, .inl (cI, 64, .inl pp)), (k3, .inl (cI, 64, .inl qq))] := hD
          have hP9 := hP.sub (ws' := [(k, .inr (4, [.ref k1, .ref k2, .ref k3, .int (nk + 1), .int fs])), (k1, .inl (cI, 64, .inl (upd f i.toNatClampNeg x))), (k2, .inl (cI, 64, .inl pp)), (k3, .inl (cI, 64, .inl qq))]) [1, 0, 2, 3] rfl
          have hD9 := hD.sub (ws' := [(k, .inr (4, [.ref k1, .ref k2, .ref k3, .int (nk + 1), .int fs])), (k1, .inl (cI, 64, .inl (upd f i.toNatClampNeg x))), (k2, .inl (cI, 64, .inl pp)), (k3, .inl (cI, 64, .inl qq))]) [1, 0, 2, 3] (by decide) rfl
          exact W.vret hx hb hr (fun T9 hT9 hW9 => ⟨⟨(upd f i.toNatClampNeg x), rfl, by first | trivial | (first | (obtain rfl := sw_zero hi (by omega) c_6; rw [← hs, hi, nI_clamp (by decide)]; rfl) | (rw [← hs, hi3]; rw [hi2] at c_22; simp [sw_insf, c_22])), by rw [hT9]; exact hP9, hD9⟩, hS.F hT9⟩) hS.2.2 d_Cr_insert_62
        · skip
          replace c_22 := sw_bn.mp c_22
          refine lv_aload_n hx hb d_Cr_insert_25 rfl (lv_at hl 0 rfl) ?_
          refine va_get (D := D) (ci := 4) (v := .ref k1) (C := R_Cr) (T := F_Cr) (N := 5) hx hb hw ku_Cr hown hK hP 1 rfl rfl 0 (by decide) (hw _ kw_053bb905) (fun _ h9 => h9) rfl d_Cr_insert_26 ?_
          refine lv_iload_n hx hb d_Cr_insert_29 rfl (lv_at hl 2 rfl) ?_
          refine lv_aload_n hx hb d_Cr_insert_30 rfl (lv_at hl 0 rfl) ?_
          refine va_get (D := D) (ci := 4) (v := .ref k1) (C := R_Cr) (T := F_Cr) (N := 5) hx hb hw ku_Cr hown hK hP 1 rfl rfl 0 (by decide) (hw _ kw_053bb905) (fun _ h9 => h9) rfl d_Cr_insert_31 ?_
          refine lv_iload_n hx hb d_Cr_insert_34 rfl (lv_at hl 2 rfl) ?_
          refine lv_iconst (v := 1) hx hb d_Cr_insert_35 (by decide) ?_
          refine lv_isub hx hb d_Cr_insert_36 ?_
          refine va_iald hx hb hK hP 0 0 rfl rfl (by assumption) d_Cr_insert_37 ?_
          refine va_iast hx hb hK hP hD hS 0 0 rfl rfl (by assumption) d_Cr_insert_38 (fun H locs hP hD hS => ?_)
          replace hP : va_P D sw_cl [(k1, .inl (cI, 64, .inl (upd f i.toNatClampNeg (f (i - 1).toNatClampNeg)))), (k, .inr (4, [.ref k1, .ref k2, .ref k3, .int nk, .int fs])), (k2, .inl (cI, 64, .inl pp)), (k3, .inl (cI, 64, .inl qq))] H := hP
          replace hD : va_D A [(k1, .inl (cI, 64, .inl (upd f i.toNatClampNeg (f (i - 1).toNatClampNeg)))), (k, .inr (4, [.ref k1, .ref k2, .ref k3, .int nk, .int fs])), (k2, .inl (cI, 64, .inl pp)), (k3, .inl (cI, 64, .inl qq))] := hD
          refine lv_iinc (v := i + (-1)) (lv' := [(2, .int (i + (-1))), (0, .ref k), (1, .int x)]) hx hb d_Cr_insert_39 hl (k := 2) rfl rfl (by decide) rfl (fun ls hl => ?_)
          refine lv_goto (tgt := 5) hx hb d_Cr_insert_42 (by decide) ?_
          exact ih_5 z (i + (-1)) (upd f i.toNatClampNeg (f (i - 1).toNatClampNeg)) _ _ _ (by rw [hi]; exact pk_m1 z) (by omega) (fun j hj => by rw [hi3, pk_un (by omega)]; exact hf j (by omega)) (by rw [← hs, hi3, hi2]; rw [hi2] at c_22; simp [sw_insf, c_22]) (by omega) (hP.sub [1, 0, 2, 3] rfl) (hD.sub [1, 0, 2, 3] (by decide) rfl) hS (lv_sub hl [1, 2, 0] rfl)
  exact lp_5 _ nk.toNatClampNeg nk od _ _ _ (hn.1) (Nat.le_refl _) (fun _ _ => rfl) (rfl) (Nat.lt_succ_self _) (hP.sub [0, 1, 2, 3] rfl) (hD.sub [0, 1, 2, 3] (by decide) rfl) hS (lv_sub hl [1, 2, 0] rfl)

abbrev rm_Cr_isCrossed : Room := { frames := 1, cells := 0, slots := 0, locals := 23 }
abbrev q_Cr_isCrossed (D : va_G) (cI cL : ClassId) (A : Nat → Prop) (k : Nat) (p : Nat) (x : Int32) (o : Nat) (y : Int32) (z : Int32) (k1 : Nat) (k2 : Nat) (k3 : Nat) (nk : Int32) (fs : Int32) (pp : Nat → Int32) (qq : Nat → Int32) (pX : Nat) (pY : Nat) (pF : Nat) (pC : Nat) (pA : Nat) (pB : Nat) (pR : Nat) (pK : Nat) (nv : Int32) (ns : Int32) (nw : Int32) (vx : Nat → Int32) (vy : Nat → Int32) (fa : Nat → Int32) (tb : Nat → Int32) (ox : Int32) (oy : Int32) (oa : Int32) (os : Int32) : Array Value → State → Outcome → State → Prop := va_Qi (S := (Nat → Int32) × (Nat → Int32)) (fun (r : Int32) => fun (u : (Nat → Int32) × (Nat → Int32)) => match u with | (pp2, qq2) => r = ((sw_isc vx vy fa tb ox oy y z pp qq x.toNatClampNeg).1) ∧ pp2 = ((sw_isc vx vy fa tb ox oy y z pp qq x.toNatClampNeg).2.1) ∧ qq2 = ((sw_isc vx vy fa tb ox oy y z pp qq x.toNatClampNeg).2.2)) (sw_R D A (fun (u : (Nat → Int32) × (Nat → Int32)) => match u with | (pp2, qq2) => [(k, .inr (4, [.ref k1, .ref k2, .ref k3, .int nk, .int fs])), (k2, .inl (cI, 64, .inl pp2)), (k3, .inl (cI, 64, .inl qq2)), (p, .inr (1, [.ref pX, .ref pY, .ref pF, .ref pC, .ref pA, .ref pB, .ref pR, .ref pK, .int nv, .int ns, .int nw])), (pX, .inl (cI, 64, .inl vx)), (pY, .inl (cI, 64, .inl vy)), (pA, .inl (cI, 64, .inl fa)), (pB, .inl (cI, 64, .inl tb)), (o, .inr (3, [.int ox, .int oy, .int oa, .int os]))])) A
set_option maxHeartbeats 4000000 in
set_option maxRecDepth 100000 in
theorem c_Cr_isCrossed (l : Launch) (D : va_G) (cI cL : ClassId) (tq sz : Nat) (k : Nat) (p : Nat) (x : Int32) (o : Nat) (y : Int32) (z : Int32) (k1 : Nat) (k2 : Nat) (k3 : Nat) (nk : Int32) (fs : Int32) (pp : Nat → Int32) (qq : Nat → Int32) (pX : Nat) (pY : Nat) (pF : Nat) (pC : Nat) (pA : Nat) (pB : Nat) (pR : Nat) (pK : Nat) (nv : Int32) (ns : Int32) (nw : Int32) (vx : Nat → Int32) (vy : Nat → Int32) (fa : Nat → Int32) (tb : Nat → Int32) (ox : Int32) (oy : Int32) (oa : Int32) (os : Int32) (ix : vp_in x 64) (jx : vp_in (fa x.toNatClampNeg) 64) (kx : vp_in (tb x.toNatClampNeg) 64) : Met l y_Cr_isCrossed w_Cr_isCrossed rm_Cr_isCrossed (va_Pc [.ref k, .ref p, .int x, .ref o, .int y, .int z] (sw_B D cI cL tq sz [(k, .inr (4, [.ref k1, .ref k2, .ref k3, .int nk, .int fs])), (k2, .inl (cI, 64, .inl pp)), (k3, .inl (cI, 64, .inl qq)), (p, .inr (1, [.ref pX, .ref pY, .ref pF, .ref pC, .ref pA, .ref pB, .ref pR, .ref pK, .int nv, .int ns, .int nw])), (pX, .inl (cI, 64, .inl vx)), (pY, .inl (cI, 64, .inl vy)), (pA, .inl (cI, 64, .inl fa)), (pB, .inl (cI, 64, .inl tb)), (o, .inr (3, [.int ox, .int oy, .int oa, .int os]))])) (q_Cr_isCrossed D cI cL (va_A [(k, .inr (4, [.ref k1, .ref k2, .ref k3, .int nk, .int fs])), (k2, .inl (cI, 64, .inl pp)), (k3, .inl (cI, 64, .inl qq)), (p, .inr (1, [.ref pX, .ref pY, .ref pF, .ref pC, .ref pA, .ref pB, .ref pR, .ref pK, .int nv, .int ns, .int nw])), (pX, .inl (cI, 64, .inl vx)), (pY, .inl (cI, 64, .inl vy)), (pA, .inl (cI, 64, .inl fa)), (pB, .inl (cI, 64, .inl tb)), (o, .inr (3, [.int ox, .int oy, .int oa, .int os]))] sz) k p x o y z k1 k2 k3 nk fs pp qq pX pY pF pC pA pB pR pK nv ns nw vx vy fa tb ox oy oa os) 0 0 (va_A [(k, .inr (4, [.ref k1, .ref k2, .ref k3, .int nk, .int fs])), (k2, .inl (cI, 64, .inl pp)), (k3, .inl (cI, 64, .inl qq)), (p, .inr (1, [.ref pX, .ref pY, .ref pF, .ref pC, .ref pA, .ref pB, .ref pR, .ref pK, .int nv, .int ns, .int nw])), (pX, .inl (cI, 64, .inl vx)), (pY, .inl (cI, 64, .inl vy)), (pA, .inl (cI, 64, .inl fa)), (pB, .inl (cI, 64, .inl tb)), (o, .inr (3, [.int ox, .int oy, .int oa, .int os]))] sz) := by
  refine Met.ofW (cc := b_Cr_isCrossed) (maxL := 12) (ret := (some .boolean)) (by decide) rfl ?_
  intro mp me s mm args below meth mk s₁ B hml hv
  obtain ⟨rfl, hsz, hP, hK, hD0, hG⟩ := hv
  have hx := B.exec
  have hb := B.bytes
  have hr := B.returns
  have hts := atoms_spec (ws := w_Cr_isCrossed) B.pre
  have hw : ∀ w ∈ sw_words, w.before _ s = true := fun w h => hts w (List.mem_cons_of_mem _ h)
  have hown : s.vm.findClass R_Cr = some mm.cls := findClass_of_methodNamed B.named
  have hlocks := B.notSynchronized
  subst hsz
  have hD := hD0.self (sz := s.heap.size)
  generalize hAe : va_A [(k, .inr (4, [.ref k1, .ref k2, .ref k3, .int nk, .int fs])), (k2, .inl (cI, 64, .inl pp)), (k3, .inl (cI, 64, .inl qq)), (p, .inr (1, [.ref pX, .ref pY, .ref pF, .ref pC, .ref pA, .ref pB, .ref pR, .ref pK, .int nv, .int ns, .int nw])), (pX, .inl (cI, 64, .inl vx)), (pY, .inl (cI, 64, .inl vy)), (pA, .inl (cI, 64, .inl fa)), (pB, .inl (cI, 64, .inl tb)), (o, .inr (3, [.int ox, .int oy, .int oa, .int os]))] s.heap.size = A at hD hG ⊢
  have hA : ∀ q : Nat, s.heap.size ≤ q → A q := fun q h => by rw [← hAe]; exact Or.inr h
  have hS : va_S A s.heap s.heap [] := va_S.rf
  have hl := lv_entry ([.ref k, .ref p, .int x, .ref o, .int y, .int z]) (n := 12) (Nat.le_of_ble_eq_true rfl)
  rw [lg_entry_eq]
  generalize (lg_sl ([.ref k, .ref p, .int x, .ref o, .int y, .int z]) ++ List.replicate (12 - (lg_sl ([.ref k, .ref p, .int x, .ref o, .int y, .int z])).length) Slot.unset).toArray = ls at hl ⊢
  have hl : lv_has ls 12 [(0, .ref k), (1, .ref p), (2, .int x), (3, .ref o), (4, .int y), (5, .int z)] := hl
  refine lv_aload_n hx hb d_Cr_isCrossed_0 rfl (lv_at hl 1 rfl) ?_
  refine va_get (D := D) (ci := 1) (v := .ref pX) (C := R_Pl) (T := F_Pl) (N := 11) hx hb hw ku_Pl hown hK hP 3 rfl rfl 0 (by decide) (hw _ kw_b60aa6b2) (fun _ h9 => h9) rfl d_Cr_isCrossed_1 ?_
  refine lv_aload_n hx hb d_Cr_isCrossed_4 rfl (lv_at hl 1 rfl) ?_
  refine va_get (D := D) (ci := 1) (v := .ref pA) (C := R_Pl) (T := F_Pl) (N := 11) hx hb hw ku_Pl hown hK hP 3 rfl rfl 4 (by decide) (hw _ kw_d0b565cb) (fun _ h9 => h9) rfl d_Cr_isCrossed_5 ?_
  refine lv_iload_n hx hb d_Cr_isCrossed_8 rfl (lv_at hl 2 rfl) ?_
  refine va_iald hx hb hK hP 6 0 rfl rfl (by assumption) d_Cr_isCrossed_9 ?_
  refine va_iald hx hb hK hP 4 0 rfl rfl (by assumption) d_Cr_isCrossed_10 ?_
  refine lv_aload_n hx hb d_Cr_isCrossed_11 rfl (lv_at hl 3 rfl) ?_
  refine va_get (D := D) (ci := 3) (v := .int ox) (C := R_St) (T := F_St) (N := 4) hx hb hw ku_St hown hK hP 8 rfl rfl 0 (by decide) (hw _ kw_488ca1e4) (fun _ h9 => h9) rfl d_Cr_isCrossed_12 ?_
  refine lv_isub hx hb d_Cr_isCrossed_15 ?_
  refine lv_topi (fun ax e_ax => ?_)
  refine lv_istore (lv' := [(6, .int ax), (0, .ref k), (1, .ref p), (2, .int x), (3, .ref o), (4, .int y), (5, .int z)]) hx hb d_Cr_isCrossed_16 hl (by decide) rfl (fun ls hl => ?_)
  refine lv_aload_n hx hb d_Cr_isCrossed_18 rfl (lv_at hl 2 rfl) ?_
  refine va_get (D := D) (ci := 1) (v := .ref pY) (C := R_Pl) (T := F_Pl) (N := 11) hx hb hw ku_Pl hown hK hP 3 rfl rfl 1 (by decide) (hw _ kw_8fd15a10) (fun _ h9 => h9) rfl d_Cr_isCrossed_19 ?_
  refine lv_aload_n hx hb d_Cr_isCrossed_22 rfl (lv_at hl 2 rfl) ?_
  refine va_get (D := D) (ci := 1) (v := .ref pA) (C := R_Pl) (T := F_Pl) (N := 11) hx hb hw ku_Pl hown hK hP 3 rfl rfl 4 (by decide) (hw _ kw_d0b565cb) (fun _ h9 => h9) rfl d_Cr_isCrossed_23 ?_
  refine lv_iload_n hx hb d_Cr_isCrossed_26 rfl (lv_at hl 3 rfl) ?_
  refine va_iald hx hb hK hP 6 0 rfl rfl (by assumption) d_Cr_isCrossed_27 ?_
  refine va_iald hx hb hK hP 5 0 rfl rfl (by assumption) d_Cr_isCrossed_28 ?_
  refine lv_aload_n hx hb d_Cr_isCrossed_29 rfl (lv_at hl 4 rfl) ?_
  refine va_get (D := D) (ci := 3) (v := .int oy) (C := R_St) (T := F_St) (N := 4) hx hb hw ku_St hown hK hP 8 rfl rfl 1 (by decide) (hw _ kw_23641763) (fun _ h9 => h9) rfl d_Cr_isCrossed_30 ?_
  refine lv_isub hx hb d_Cr_isCrossed_33 ?_
  refine lv_topi (fun ay e_ay => ?_)
  refine lv_istore (lv' := [(7, .int ay), (6, .int ax), (0, .ref k), (1, .ref p), (2, .int x), (3, .ref o), (4, .int y), (5, .int z)]) hx hb d_Cr_isCrossed_34 hl (by decide) rfl (fun ls hl => ?_)
  refine lv_aload_n hx hb d_Cr_isCrossed_36 rfl (lv_at hl 3 rfl) ?_
  refine va_get (D := D) (ci := 1) (v := .ref pX) (C := R_Pl) (T := F_Pl) (N := 11) hx hb hw ku_Pl hown hK hP 3 rfl rfl 0 (by decide) (hw _ kw_b60aa6b2) (fun _ h9 => h9) rfl d_Cr_isCrossed_37 ?_
  refine lv_aload_n hx hb d_Cr_isCrossed_40 rfl (lv_at hl 3 rfl) ?_
  refine va_get (D := D) (ci := 1) (v := .ref pB) (C := R_Pl) (T := F_Pl) (N := 11) hx hb hw ku_Pl hown hK hP 3 rfl rfl 5 (by decide) (hw _ kw_b917b49a) (fun _ h9 => h9) rfl d_Cr_isCrossed_41 ?_
  refine lv_iload_n hx hb d_Cr_isCrossed_44 rfl (lv_at hl 4 rfl) ?_
  refine va_iald hx hb hK hP 7 0 rfl rfl (by assumption) d_Cr_isCrossed_45 ?_
  refine va_iald hx hb hK hP 4 0 rfl rfl (by assumption) d_Cr_isCrossed_46 ?_
  refine lv_aload_n hx hb d_Cr_isCrossed_47 rfl (lv_at hl 5 rfl) ?_
  refine va_get (D := D) (ci := 3) (v := .int ox) (C := R_St) (T := F_St) (N := 4) hx hb hw ku_St hown hK hP 8 rfl rfl 0 (by decide) (hw _ kw_488ca1e4) (fun _ h9 => h9) rfl d_Cr_isCrossed_48 ?_
  refine lv_isub hx hb d_Cr_isCrossed_51 ?_
  refine lv_topi (fun bx e_bx => ?_)
  refine lv_istore (lv' := [(8, .int bx), (7, .int ay), (6, .int ax), (0, .ref k), (1, .ref p), (2, .int x), (3, .ref o), (4, .int y), (5, .int z)]) hx hb d_Cr_isCrossed_52 hl (by decide) rfl (fun ls hl => ?_)
  refine lv_aload_n hx hb d_Cr_isCrossed_54 rfl (lv_at hl 4 rfl) ?_
  refine va_get (D := D) (ci := 1) (v := .ref pY) (C := R_Pl) (T := F_Pl) (N := 11) hx hb hw ku_Pl hown hK hP 3 rfl rfl 1 (by decide) (hw _ kw_8fd15a10) (fun _ h9 => h9) rfl d_Cr_isCrossed_55 ?_
  refine lv_aload_n hx hb d_Cr_isCrossed_58 rfl (lv_at hl 4 rfl) ?_
  refine va_get (D := D) (ci := 1) (v := .ref pB) (C := R_Pl) (T := F_Pl) (N := 11) hx hb hw ku_Pl hown hK hP 3 rfl rfl 5 (by decide) (hw _ kw_b917b49a) (fun _ h9 => h9) rfl d_Cr_isCrossed_59 ?_
  refine lv_iload_n hx hb d_Cr_isCrossed_62 rfl (lv_at hl 5 rfl) ?_
  refine va_iald hx hb hK hP 7 0 rfl rfl (by assumption) d_Cr_isCrossed_63 ?_
  refine va_iald hx hb hK hP 5 0 rfl rfl (by assumption) d_Cr_isCrossed_64 ?_
  refine lv_aload_n hx hb d_Cr_isCrossed_65 rfl (lv_at hl 6 rfl) ?_
  refine va_get (D := D) (ci := 3) (v := .int oy) (C := R_St) (T := F_St) (N := 4) hx hb hw ku_St hown hK hP 8 rfl rfl 1 (by decide) (hw _ kw_23641763) (fun _ h9 => h9) rfl d_Cr_isCrossed_66 ?_
  refine lv_isub hx hb d_Cr_isCrossed_69 ?_
  refine lv_topi (fun bz e_bz => ?_)
  refine lv_istore (lv' := [(9, .int bz), (8, .int bx), (7, .int ay), (6, .int ax), (0, .ref k), (1, .ref p), (2, .int x), (3, .ref o), (4, .int y), (5, .int z)]) hx hb d_Cr_isCrossed_70 hl (by decide) rfl (fun ls hl => ?_)
  refine lv_iload hx hb d_Cr_isCrossed_72 (lv_at hl 8 rfl) ?_
  refine lv_iload hx hb d_Cr_isCrossed_74 (lv_at hl 9 rfl) ?_
  refine lv_iload hx hb d_Cr_isCrossed_76 (lv_at hl 3 rfl) ?_
  refine lv_iload hx hb d_Cr_isCrossed_78 (lv_at hl 2 rfl) ?_
  refine sw_ki0 (wr := [(k, .inr (4, [.ref k1, .ref k2, .ref k3, .int nk, .int fs])), (k2, .inl (cI, 64, .inl pp)), (k3, .inl (cI, 64, .inl qq)), (p, .inr (1, [.ref pX, .ref pY, .ref pF, .ref pC, .ref pA, .ref pB, .ref pR, .ref pK, .int nv, .int ns, .int nw])), (pX, .inl (cI, 64, .inl vx)), (pY, .inl (cI, 64, .inl vy)), (pA, .inl (cI, 64, .inl fa)), (pB, .inl (cI, 64, .inl tb)), (o, .inr (3, [.int ox, .int oy, .int oa, .int os]))]) (va_runSN (host := "SectorWalk") (As := [.int y, .int z, .int ax, .int ay]) (rest := []) ⟨hx, hb, hml, hown, hw⟩ (c_SW_cross l D cI cL tq _ y z ax ay) ⟨va_cnB 4 hw (sw_gN kc_SW_cross) rfl rfl rfl (hG.nest (by decide +kernel)) (hw _ kw_7ea4a733) yd_SW_cross ⟨Nat.le_of_ble_eq_true rfl, Nat.le_of_ble_eq_true rfl⟩, hw _ kw_b1bc16be, trivial⟩ (sw_preS hK hP hD hS hA hG [] rfl (by decide)) rfl rfl hl.1 rfl (lv_room (Nat.le_of_ble_eq_true rfl)) d_Cr_isCrossed_80 ⟨Nat.le_of_ble_eq_true rfl, Nat.le_of_ble_eq_true rfl⟩) hP hD hS hA [] [0, 1, 2, 3, 4, 5, 6, 7, 8] rfl rfl (by decide) (by decide) (fun r_80 _ H locs hp_80 hP hD hS => ?_)
  replace hP : va_P D sw_cl [(k, .inr (4, [.ref k1, .ref k2, .ref k3, .int nk, .int fs])), (k2, .inl (cI, 64, .inl pp)), (k3, .inl (cI, 64, .inl qq)), (p, .inr (1, [.ref pX, .ref pY, .ref pF, .ref pC, .ref pA, .ref pB, .ref pR, .ref pK, .int nv, .int ns, .int nw])), (pX, .inl (cI, 64, .inl vx)), (pY, .inl (cI, 64, .inl vy)), (pA, .inl (cI, 64, .inl fa)), (pB, .inl (cI, 64, .inl tb)), (o, .inr (3, [.int ox, .int oy, .int oa, .int os]))] H := hP
  replace hD : va_D A [(k, .inr (4, [.ref k1, .ref k2, .ref k3, .int nk, .int fs])), (k2, .inl (cI, 64, .inl pp)), (k3, .inl (cI, 64, .inl qq)), (p, .inr (1, [.ref pX, .ref pY, .ref pF, .ref pC, .ref pA, .ref pB, .ref pR, .ref pK, .int nv, .int ns, .int nw])), (pX, .inl (cI, 64, .inl vx)), (pY, .inl (cI, 64, .inl vy)), (pA, .inl (cI, 64, .inl fa)), (pB, .inl (cI, 64, .inl tb)), (o, .inr (3, [.int ox, .int oy, .int oa, .int os]))] := hD
  try dsimp only at hp_80
  subst hp_80
  refine lv_topi (fun ca e_ca => ?_)
  refine lv_istore (lv' := [(10, .int ca), (9, .int bz), (8, .int bx), (7, .int ay), (6, .int ax), (0, .ref k), (1, .ref p), (2, .int x), (3, .ref o), (4, .int y), (5, .int z)]) hx hb d_Cr_isCrossed_83 hl (by decide) rfl (fun ls hl => ?_)
  refine lv_iload hx hb d_Cr_isCrossed_85 (lv_at hl 9 rfl) ?_
  refine lv_iload hx hb d_Cr_isCrossed_87 (lv_at hl 10 rfl) ?_
  refine lv_iload hx hb d_Cr_isCrossed_89 (lv_at hl 2 rfl) ?_
  refine lv_iload hx hb d_Cr_isCrossed_91 (lv_at hl 1 rfl) ?_
  refine sw_ki0 (wr := [(k, .inr (4, [.ref k1, .ref k2, .ref k3, .int nk, .int fs])), (k2, .inl (cI, 64, .inl pp)), (k3, .inl (cI, 64, .inl qq)), (p, .inr (1, [.ref pX, .ref pY, .ref pF, .ref pC, .ref pA, .ref pB, .ref pR, .ref pK, .int nv, .int ns, .int nw])), (pX, .inl (cI, 64, .inl vx)), (pY, .inl (cI, 64, .inl vy)), (pA, .inl (cI, 64, .inl fa)), (pB, .inl (cI, 64, .inl tb)), (o, .inr (3, [.int ox, .int oy, .int oa, .int os]))]) (va_runSN (host := "SectorWalk") (As := [.int y, .int z, .int bx, .int bz]) (rest := []) ⟨hx, hb, hml, hown, hw⟩ (c_SW_cross l D cI cL tq _ y z bx bz) ⟨va_cnB 4 hw (sw_gN kc_SW_cross) rfl rfl rfl (hG.nest (by decide +kernel)) (hw _ kw_7ea4a733) yd_SW_cross ⟨Nat.le_of_ble_eq_true rfl, Nat.le_of_ble_eq_true rfl⟩, hw _ kw_b1bc16be, trivial⟩ (sw_preS hK hP hD hS hA hG [] rfl (by decide)) rfl rfl hl.1 rfl (lv_room (Nat.le_of_ble_eq_true rfl)) d_Cr_isCrossed_93 ⟨Nat.le_of_ble_eq_true rfl, Nat.le_of_ble_eq_true rfl⟩) hP hD hS hA [] [0, 1, 2, 3, 4, 5, 6, 7, 8] rfl rfl (by decide) (by decide) (fun r_93 _ H locs hp_93 hP hD hS => ?_)
  replace hP : va_P D sw_cl [(k, .inr (4, [.ref k1, .ref k2, .ref k3, .int nk, .int fs])), (k2, .inl (cI, 64, .inl pp)), (k3, .inl (cI, 64, .inl qq)), (p, .inr (1, [.ref pX, .ref pY, .ref pF, .ref pC, .ref pA, .ref pB, .ref pR, .ref pK, .int nv, .int ns, .int nw])), (pX, .inl (cI, 64, .inl vx)), (pY, .inl (cI, 64, .inl vy)), (pA, .inl (cI, 64, .inl fa)), (pB, .inl (cI, 64, .inl tb)), (o, .inr (3, [.int ox, .int oy, .int oa, .int os]))] H := hP
  replace hD : va_D A [(k, .inr (4, [.ref k1, .ref k2, .ref k3, .int nk, .int fs])), (k2, .inl (cI, 64, .inl pp)), (k3, .inl (cI, 64, .inl qq)), (p, .inr (1, [.ref pX, .ref pY, .ref pF, .ref pC, .ref pA, .ref pB, .ref pR, .ref pK, .int nv, .int ns, .int nw])), (pX, .inl (cI, 64, .inl vx)), (pY, .inl (cI, 64, .inl vy)), (pA, .inl (cI, 64, .inl fa)), (pB, .inl (cI, 64, .inl tb)), (o, .inr (3, [.int ox, .int oy, .int oa, .int os]))] := hD
  try dsimp only at hp_93
  subst hp_93
  refine lv_topi (fun cb e_cb => ?_)
  refine lv_istore (lv' := [(11, .int cb), (10, .int ca), (9, .int bz), (8, .int bx), (7, .int ay), (6, .int ax), (0, .ref k), (1, .ref p), (2, .int x), (3, .ref o), (4, .int y), (5, .int z)]) hx hb d_Cr_isCrossed_96 hl (by decide) rfl (fun ls hl => ?_)
  refine lv_iload hx hb d_Cr_isCrossed_98 (lv_at hl 1 rfl) ?_
  refine lv_if_ge (tgt := 107) hx hb d_Cr_isCrossed_100 (by decide) (fun c_100 => ?_) (fun c_100 => ?_)
  · skip
    refine lv_iconst (v := 0) hx hb d_Cr_isCrossed_107 (by decide) ?_
    refine lv_iload hx hb d_Cr_isCrossed_108 (lv_at hl 0 rfl) ?_
    refine lv_if_ge (tgt := 117) hx hb d_Cr_isCrossed_110 (by decide) (fun c_110 => ?_) (fun c_110 => ?_)
    · skip
      refine lv_iconst (v := 0) hx hb d_Cr_isCrossed_117 (by decide) ?_
      refine lv_icmp_ne (tgt := 123) hx hb d_Cr_isCrossed_118 (by decide) (fun c_118 => ?_) (fun c_118 => ?_)
      · skip
        exact absurd rfl c_118
      · skip
        refine lv_iconst (v := 0) hx hb d_Cr_isCrossed_121 (by decide) ?_
        have hP9 := hP.sub (ws' := [(k, .inr (4, [.ref k1, .ref k2, .ref k3, .int nk, .int fs])), (k2, .inl (cI, 64, .inl pp)), (k3, .inl (cI, 64, .inl qq)), (p, .inr (1, [.ref pX, .ref pY, .ref pF, .ref pC, .ref pA, .ref pB, .ref pR, .ref pK, .int nv, .int ns, .int nw])), (pX, .inl (cI, 64, .inl vx)), (pY, .inl (cI, 64, .inl vy)), (pA, .inl (cI, 64, .inl fa)), (pB, .inl (cI, 64, .inl tb)), (o, .inr (3, [.int ox, .int oy, .int oa, .int os]))]) [0, 1, 2, 3, 4, 5, 6, 7, 8] rfl
        have hD9 := hD.sub (ws' := [(k, .inr (4, [.ref k1, .ref k2, .ref k3, .int nk, .int fs])), (k2, .inl (cI, 64, .inl pp)), (k3, .inl (cI, 64, .inl qq)), (p, .inr (1, [.ref pX, .ref pY, .ref pF, .ref pC, .ref pA, .ref pB, .ref pR, .ref pK, .int nv, .int ns, .int nw])), (pX, .inl (cI, 64, .inl vx)), (pY, .inl (cI, 64, .inl vy)), (pA, .inl (cI, 64, .inl fa)), (pB, .inl (cI, 64, .inl tb)), (o, .inr (3, [.int ox, .int oy, .int oa, .int os]))]) [0, 1, 2, 3, 4, 5, 6, 7, 8] (by decide) rfl
        exact W.zret (ty := .boolean) (v := 0) hx hb hr (rfl) (fun T9 hT9 hW9 => ⟨⟨0, (pp, qq), rfl, by subst e_cb e_ca e_bz e_bx e_ay e_ax; simp [sw_isc, sw_cra, sw_crp, upd, c_100, c_110, c_118], by rw [hT9]; exact hP9, hD9⟩, hS.F hT9⟩) hS.2.2 d_Cr_isCrossed_122
    · skip
      refine lv_iconst (v := 1) hx hb d_Cr_isCrossed_113 (by decide) ?_
      refine lv_goto (tgt := 118) hx hb d_Cr_isCrossed_114 (by decide) ?_
      refine lv_icmp_ne (tgt := 123) hx hb d_Cr_isCrossed_118 (by decide) (fun c_118 => ?_) (fun c_118 => ?_)
      · skip
        refine lv_aload_n hx hb d_Cr_isCrossed_123 rfl (lv_at hl 6 rfl) ?_
        refine va_get (D := D) (ci := 4) (v := .ref k2) (C := R_Cr) (T := F_Cr) (N := 5) hx hb hw ku_Cr hown hK hP 0 rfl rfl 1 (by decide) (hw _ kw_600bd2b2) (fun _ h9 => h9) rfl d_Cr_isCrossed_124 ?_
        refine lv_iload_n hx hb d_Cr_isCrossed_127 rfl (lv_at hl 8 rfl) ?_
        refine lv_iload hx hb d_Cr_isCrossed_128 (lv_at hl 5 rfl) ?_
        refine lv_iload hx hb d_Cr_isCrossed_130 (lv_at hl 4 rfl) ?_
        refine lv_iload hx hb d_Cr_isCrossed_132 (lv_at hl 3 rfl) ?_
        refine lv_iload hx hb d_Cr_isCrossed_134 (lv_at hl 5 rfl) ?_
        refine lv_isub hx hb d_Cr_isCrossed_136 ?_
        refine lv_iload hx hb d_Cr_isCrossed_137 (lv_at hl 2 rfl) ?_
        refine lv_iload hx hb d_Cr_isCrossed_139 (lv_at hl 4 rfl) ?_
        refine lv_isub hx hb d_Cr_isCrossed_141 ?_
        refine sw_ki0 (wr := [(k, .inr (4, [.ref k1, .ref k2, .ref k3, .int nk, .int fs])), (k2, .inl (cI, 64, .inl pp)), (k3, .inl (cI, 64, .inl qq)), (p, .inr (1, [.ref pX, .ref pY, .ref pF, .ref pC, .ref pA, .ref pB, .ref pR, .ref pK, .int nv, .int ns, .int nw])), (pX, .inl (cI, 64, .inl vx)), (pY, .inl (cI, 64, .inl vy)), (pA, .inl (cI, 64, .inl fa)), (pB, .inl (cI, 64, .inl tb)), (o, .inr (3, [.int ox, .int oy, .int oa, .int os]))]) (va_runSN (host := "SectorWalk") (As := [.int ax, .int ay, .int (bx - ax), .int (bz - ay)]) (rest := [.int x, .ref k2]) ⟨hx, hb, hml, hown, hw⟩ (c_SW_cross l D cI cL tq _ ax ay (bx - ax) (bz - ay)) ⟨va_cnB 4 hw (sw_gN kc_SW_cross) rfl rfl rfl (hG.nest (by decide +kernel)) (hw _ kw_7ea4a733) yd_SW_cross ⟨Nat.le_of_ble_eq_true rfl, Nat.le_of_ble_eq_true rfl⟩, hw _ kw_b1bc16be, trivial⟩ (sw_preS hK hP hD hS hA hG [] rfl (by decide)) rfl rfl hl.1 rfl (lv_room (Nat.le_of_ble_eq_true rfl)) d_Cr_isCrossed_142 ⟨Nat.le_of_ble_eq_true rfl, Nat.le_of_ble_eq_true rfl⟩) hP hD hS hA [] [0, 1, 2, 3, 4, 5, 6, 7, 8] rfl rfl (by decide) (by decide) (fun r_142 _ H locs hp_142 hP hD hS => ?_)
        replace hP : va_P D sw_cl [(k, .inr (4, [.ref k1, .ref k2, .ref k3, .int nk, .int fs])), (k2, .inl (cI, 64, .inl pp)), (k3, .inl (cI, 64, .inl qq)), (p, .inr (1, [.ref pX, .ref pY, .ref pF, .ref pC, .ref pA, .ref pB, .ref pR, .ref pK, .int nv, .int ns, .int nw])), (pX, .inl (cI, 64, .inl vx)), (pY, .inl (cI, 64, .inl vy)), (pA, .inl (cI, 64, .inl fa)), (pB, .inl (cI, 64, .inl tb)), (o, .inr (3, [.int ox, .int oy, .int oa, .int os]))] H := hP
        replace hD : va_D A [(k, .inr (4, [.ref k1, .ref k2, .ref k3, .int nk, .int fs])), (k2, .inl (cI, 64, .inl pp)), (k3, .inl (cI, 64, .inl qq)), (p, .inr (1, [.ref pX, .ref pY, .ref pF, .ref pC, .ref pA, .ref pB, .ref pR, .ref pK, .int nv, .int ns, .int nw])), (pX, .inl (cI, 64, .inl vx)), (pY, .inl (cI, 64, .inl vy)), (pA, .inl (cI, 64, .inl fa)), (pB, .inl (cI, 64, .inl tb)), (o, .inr (3, [.int ox, .int oy, .int oa, .int os]))] := hD
        try dsimp only at hp_142
        subst hp_142
        refine va_iast hx hb hK hP hD hS 1 0 rfl rfl (by assumption) d_Cr_isCrossed_145 (fun H locs hP hD hS => ?_)
        replace hP : va_P D sw_cl [(k, .inr (4, [.ref k1, .ref k2, .ref k3, .int nk, .int fs])), (k2, .inl (cI, 64, .inl (upd pp x.toNatClampNeg (ax * (bz - ay) - ay * (bx - ax))))), (k3, .inl (cI, 64, .inl qq)), (p, .inr (1, [.ref pX, .ref pY, .ref pF, .ref pC, .ref pA, .ref pB, .ref pR, .ref pK, .int nv, .int ns, .int nw])), (pX, .inl (cI, 64, .inl vx)), (pY, .inl (cI, 64, .inl vy)), (pA, .inl (cI, 64, .inl fa)), (pB, .inl (cI, 64, .inl tb)), (o, .inr (3, [.int ox, .int oy, .int oa, .int os]))] H := hP
        replace hD : va_D A [(k, .inr (4, [.ref k1, .ref k2, .ref k3, .int nk, .int fs])), (k2, .inl (cI, 64, .inl (upd pp x.toNatClampNeg (ax * (bz - ay) - ay * (bx - ax))))), (k3, .inl (cI, 64, .inl qq)), (p, .inr (1, [.ref pX, .ref pY, .ref pF, .ref pC, .ref pA, .ref pB, .ref pR, .ref pK, .int nv, .int ns, .int nw])), (pX, .inl (cI, 64, .inl vx)), (pY, .inl (cI, 64, .inl vy)), (pA, .inl (cI, 64, .inl fa)), (pB, .inl (cI, 64, .inl tb)), (o, .inr (3, [.int ox, .int oy, .int oa, .int os]))] := hD
        refine lv_aload_n hx hb d_Cr_isCrossed_146 rfl (lv_at hl 6 rfl) ?_
        refine va_get (D := D) (ci := 4) (v := .ref k3) (C := R_Cr) (T := F_Cr) (N := 5) hx hb hw ku_Cr hown hK hP 0 rfl rfl 2 (by decide) (hw _ kw_47a18be0) (fun _ h9 => h9) rfl d_Cr_isCrossed_147 ?_
        refine lv_iload_n hx hb d_Cr_isCrossed_150 rfl (lv_at hl 8 rfl) ?_
        refine lv_iload hx hb d_Cr_isCrossed_151 (lv_at hl 0 rfl) ?_
        refine lv_iload hx hb d_Cr_isCrossed_153 (lv_at hl 1 rfl) ?_
        refine lv_isub hx hb d_Cr_isCrossed_155 ?_
        refine va_iast hx hb hK hP hD hS 2 0 rfl rfl (by assumption) d_Cr_isCrossed_156 (fun H locs hP hD hS => ?_)
        replace hP : va_P D sw_cl [(k, .inr (4, [.ref k1, .ref k2, .ref k3, .int nk, .int fs])), (k2, .inl (cI, 64, .inl (upd pp x.toNatClampNeg (ax * (bz - ay) - ay * (bx - ax))))), (k3, .inl (cI, 64, .inl (upd qq x.toNatClampNeg (cb - ca)))), (p, .inr (1, [.ref pX, .ref pY, .ref pF, .ref pC, .ref pA, .ref pB, .ref pR, .ref pK, .int nv, .int ns, .int nw])), (pX, .inl (cI, 64, .inl vx)), (pY, .inl (cI, 64, .inl vy)), (pA, .inl (cI, 64, .inl fa)), (pB, .inl (cI, 64, .inl tb)), (o, .inr (3, [.int ox, .int oy, .int oa, .int os]))] H := hP
        replace hD : va_D A [(k, .inr (4, [.ref k1, .ref k2, .ref k3, .int nk, .int fs])), (k2, .inl (cI, 64, .inl (upd pp x.toNatClampNeg (ax * (bz - ay) - ay * (bx - ax))))), (k3, .inl (cI, 64, .inl (upd qq x.toNatClampNeg (cb - ca)))), (p, .inr (1, [.ref pX, .ref pY, .ref pF, .ref pC, .ref pA, .ref pB, .ref pR, .ref pK, .int nv, .int ns, .int nw])), (pX, .inl (cI, 64, .inl vx)), (pY, .inl (cI, 64, .inl vy)), (pA, .inl (cI, 64, .inl fa)), (pB, .inl (cI, 64, .inl tb)), (o, .inr (3, [.int ox, .int oy, .int oa, .int os]))] := hD
        refine lv_aload_n hx hb d_Cr_isCrossed_157 rfl (lv_at hl 6 rfl) ?_
        refine va_get (D := D) (ci := 4) (v := .ref k2) (C := R_Cr) (T := F_Cr) (N := 5) hx hb hw ku_Cr hown hK hP 0 rfl rfl 1 (by decide) (hw _ kw_600bd2b2) (fun _ h9 => h9) rfl d_Cr_isCrossed_158 ?_
        refine lv_iload_n hx hb d_Cr_isCrossed_161 rfl (lv_at hl 8 rfl) ?_
        refine va_iald hx hb hK hP 1 0 rfl rfl (by assumption) d_Cr_isCrossed_162 ?_
        refine lv_aload_n hx hb d_Cr_isCrossed_163 rfl (lv_at hl 6 rfl) ?_
        refine va_get (D := D) (ci := 4) (v := .ref k3) (C := R_Cr) (T := F_Cr) (N := 5) hx hb hw ku_Cr hown hK hP 0 rfl rfl 2 (by decide) (hw _ kw_47a18be0) (fun _ h9 => h9) rfl d_Cr_isCrossed_164 ?_
        refine lv_iload_n hx hb d_Cr_isCrossed_167 rfl (lv_at hl 8 rfl) ?_
        refine va_iald hx hb hK hP 2 0 rfl rfl (by assumption) d_Cr_isCrossed_168 ?_
        refine sw_ki0 (wr := [(k, .inr (4, [.ref k1, .ref k2, .ref k3, .int nk, .int fs])), (k2, .inl (cI, 64, .inl (upd pp x.toNatClampNeg (ax * (bz - ay) - ay * (bx - ax))))), (k3, .inl (cI, 64, .inl (upd qq x.toNatClampNeg (cb - ca)))), (p, .inr (1, [.ref pX, .ref pY, .ref pF, .ref pC, .ref pA, .ref pB, .ref pR, .ref pK, .int nv, .int ns, .int nw])), (pX, .inl (cI, 64, .inl vx)), (pY, .inl (cI, 64, .inl vy)), (pA, .inl (cI, 64, .inl fa)), (pB, .inl (cI, 64, .inl tb)), (o, .inr (3, [.int ox, .int oy, .int oa, .int os]))]) (va_runS (As := [.int ((upd pp x.toNatClampNeg (ax * (bz - ay) - ay * (bx - ax))) x.toNatClampNeg), .int ((upd qq x.toNatClampNeg (cb - ca)) x.toNatClampNeg)]) (rest := []) ⟨hx, hb, hml, hown, hw⟩ (c_Cr_isUpToOne l D cI cL tq _ ((upd pp x.toNatClampNeg (ax * (bz - ay) - ay * (bx - ax))) x.toNatClampNeg) ((upd qq x.toNatClampNeg (cb - ca)) x.toNatClampNeg)) (cwS 2 hw (sw_gS kw_c47a1d87 kw_b5409a40 kw_7f626125 kc_Cr_isUpToOne) rfl rfl rfl ⟨rfl, yd_Cr_isUpToOne⟩ ⟨Nat.le_of_ble_eq_true rfl, Nat.le_of_ble_eq_true rfl⟩) (sw_preS hK hP hD hS hA hG [] rfl (by decide)) rfl rfl hl.1 rfl (lv_room (Nat.le_of_ble_eq_true rfl)) d_Cr_isCrossed_169 ⟨Nat.le_of_ble_eq_true rfl, Nat.le_of_ble_eq_true rfl⟩) hP hD hS hA [] [0, 1, 2, 3, 4, 5, 6, 7, 8] rfl rfl (by decide) (by decide) (fun r_169 _ H locs hp_169 hP hD hS => ?_)
        replace hP : va_P D sw_cl [(k, .inr (4, [.ref k1, .ref k2, .ref k3, .int nk, .int fs])), (k2, .inl (cI, 64, .inl (upd pp x.toNatClampNeg (ax * (bz - ay) - ay * (bx - ax))))), (k3, .inl (cI, 64, .inl (upd qq x.toNatClampNeg (cb - ca)))), (p, .inr (1, [.ref pX, .ref pY, .ref pF, .ref pC, .ref pA, .ref pB, .ref pR, .ref pK, .int nv, .int ns, .int nw])), (pX, .inl (cI, 64, .inl vx)), (pY, .inl (cI, 64, .inl vy)), (pA, .inl (cI, 64, .inl fa)), (pB, .inl (cI, 64, .inl tb)), (o, .inr (3, [.int ox, .int oy, .int oa, .int os]))] H := hP
        replace hD : va_D A [(k, .inr (4, [.ref k1, .ref k2, .ref k3, .int nk, .int fs])), (k2, .inl (cI, 64, .inl (upd pp x.toNatClampNeg (ax * (bz - ay) - ay * (bx - ax))))), (k3, .inl (cI, 64, .inl (upd qq x.toNatClampNeg (cb - ca)))), (p, .inr (1, [.ref pX, .ref pY, .ref pF, .ref pC, .ref pA, .ref pB, .ref pR, .ref pK, .int nv, .int ns, .int nw])), (pX, .inl (cI, 64, .inl vx)), (pY, .inl (cI, 64, .inl vy)), (pA, .inl (cI, 64, .inl fa)), (pB, .inl (cI, 64, .inl tb)), (o, .inr (3, [.int ox, .int oy, .int oa, .int os]))] := hD
        try dsimp only at hp_169
        subst hp_169
        have hP9 := hP.sub (ws' := [(k, .inr (4, [.ref k1, .ref k2, .ref k3, .int nk, .int fs])), (k2, .inl (cI, 64, .inl (upd pp x.toNatClampNeg (ax * (bz - ay) - ay * (bx - ax))))), (k3, .inl (cI, 64, .inl (upd qq x.toNatClampNeg (cb - ca)))), (p, .inr (1, [.ref pX, .ref pY, .ref pF, .ref pC, .ref pA, .ref pB, .ref pR, .ref pK, .int nv, .int ns, .int nw])), (pX, .inl (cI, 64, .inl vx)), (pY, .inl (cI, 64, .inl vy)), (pA, .inl (cI, 64, .inl fa)), (pB, .inl (cI, 64, .inl tb)), (o, .inr (3, [.int ox, .int oy, .int oa, .int os]))]) [0, 1, 2, 3, 4, 5, 6, 7, 8] rfl
        have hD9 := hD.sub (ws' := [(k, .inr (4, [.ref k1, .ref k2, .ref k3, .int nk, .int fs])), (k2, .inl (cI, 64, .inl (upd pp x.toNatClampNeg (ax * (bz - ay) - ay * (bx - ax))))), (k3, .inl (cI, 64, .inl (upd qq x.toNatClampNeg (cb - ca)))), (p, .inr (1, [.ref pX, .ref pY, .ref pF, .ref pC, .ref pA, .ref pB, .ref pR, .ref pK, .int nv, .int ns, .int nw])), (pX, .inl (cI, 64, .inl vx)), (pY, .inl (cI, 64, .inl vy)), (pA, .inl (cI, 64, .inl fa)), (pB, .inl (cI, 64, .inl tb)), (o, .inr (3, [.int ox, .int oy, .int oa, .int os]))]) [0, 1, 2, 3, 4, 5, 6, 7, 8] (by decide) rfl
        exact W.zret (ty := .boolean) (v := sw_b (sw_up1 ((upd pp x.toNatClampNeg (ax * (bz - ay) - ay * (bx - ax))) x.toNatClampNeg) ((upd qq x.toNatClampNeg (cb - ca)) x.toNatClampNeg))) hx hb hr (sw_bnar _) (fun T9 hT9 hW9 => ⟨⟨sw_b (sw_up1 ((upd pp x.toNatClampNeg (ax * (bz - ay) - ay * (bx - ax))) x.toNatClampNeg) ((upd qq x.toNatClampNeg (cb - ca)) x.toNatClampNeg)), (upd pp x.toNatClampNeg (ax * (bz - ay) - ay * (bx - ax)), upd qq x.toNatClampNeg (cb - ca)), rfl, by subst e_cb e_ca e_bz e_bx e_ay e_ax; simp [sw_isc, sw_cra, sw_crp, upd, c_100, c_110, c_118], by rw [hT9]; exact hP9, hD9⟩, hS.F hT9⟩) hS.2.2 d_Cr_isCrossed_172
      · skip
        exact absurd c_118 (by decide)
  · skip
    refine lv_iconst (v := 1) hx hb d_Cr_isCrossed_103 (by decide) ?_
    refine lv_goto (tgt := 108) hx hb d_Cr_isCrossed_104 (by decide) ?_
    refine lv_iload hx hb d_Cr_isCrossed_108 (lv_at hl 0 rfl) ?_
    refine lv_if_ge (tgt := 117) hx hb d_Cr_isCrossed_110 (by decide) (fun c_110 => ?_) (fun c_110 => ?_)
    · skip
      refine lv_iconst (v := 0) hx hb d_Cr_isCrossed_117 (by decide) ?_
      refine lv_icmp_ne (tgt := 123) hx hb d_Cr_isCrossed_118 (by decide) (fun c_118 => ?_) (fun c_118 => ?_)
      · skip
        refine lv_aload_n hx hb d_Cr_isCrossed_123 rfl (lv_at hl 6 rfl) ?_
        refine va_get (D := D) (ci := 4) (v := .ref k2) (C := R_Cr) (T := F_Cr) (N := 5) hx hb hw ku_Cr hown hK hP 0 rfl rfl 1 (by decide) (hw _ kw_600bd2b2) (fun _ h9 => h9) rfl d_Cr_isCrossed_124 ?_
        refine lv_iload_n hx hb d_Cr_isCrossed_127 rfl (lv_at hl 8 rfl) ?_
        refine lv_iload hx hb d_Cr_isCrossed_128 (lv_at hl 5 rfl) ?_
        refine lv_iload hx hb d_Cr_isCrossed_130 (lv_at hl 4 rfl) ?_
        refine lv_iload hx hb d_Cr_isCrossed_132 (lv_at hl 3 rfl) ?_
        refine lv_iload hx hb d_Cr_isCrossed_134 (lv_at hl 5 rfl) ?_
        refine lv_isub hx hb d_Cr_isCrossed_136 ?_
        refine lv_iload hx hb d_Cr_isCrossed_137 (lv_at hl 2 rfl) ?_
        refine lv_iload hx hb d_Cr_isCrossed_139 (lv_at hl 4 rfl) ?_
        refine lv_isub hx hb d_Cr_isCrossed_141 ?_
        refine sw_ki0 (wr := [(k, .inr (4, [.ref k1, .ref k2, .ref k3, .int nk, .int fs])), (k2, .inl (cI, 64, .inl pp)), (k3, .inl (cI, 64, .inl qq)), (p, .inr (1, [.ref pX, .ref pY, .ref pF, .ref pC, .ref pA, .ref pB, .ref pR, .ref pK, .int nv, .int ns, .int nw])), (pX, .inl (cI, 64, .inl vx)), (pY, .inl (cI, 64, .inl vy)), (pA, .inl (cI, 64, .inl fa)), (pB, .inl (cI, 64, .inl tb)), (o, .inr (3, [.int ox, .int oy, .int oa, .int os]))]) (va_runSN (host := "SectorWalk") (As := [.int ax, .int ay, .int (bx - ax), .int (bz - ay)]) (rest := [.int x, .ref k2]) ⟨hx, hb, hml, hown, hw⟩ (c_SW_cross l D cI cL tq _ ax ay (bx - ax) (bz - ay)) ⟨va_cnB 4 hw (sw_gN kc_SW_cross) rfl rfl rfl (hG.nest (by decide +kernel)) (hw _ kw_7ea4a733) yd_SW_cross ⟨Nat.le_of_ble_eq_true rfl, Nat.le_of_ble_eq_true rfl⟩, hw _ kw_b1bc16be, trivial⟩ (sw_preS hK hP hD hS hA hG [] rfl (by decide)) rfl rfl hl.1 rfl (lv_room (Nat.le_of_ble_eq_true rfl)) d_Cr_isCrossed_142 ⟨Nat.le_of_ble_eq_true rfl, Nat.le_of_ble_eq_true rfl⟩) hP hD hS hA [] [0, 1, 2, 3, 4, 5, 6, 7, 8] rfl rfl (by decide) (by decide) (fun r_142 _ H locs hp_142 hP hD hS => ?_)
        replace hP : va_P D sw_cl [(k, .inr (4, [.ref k1, .ref k2, .ref k3, .int nk, .int fs])), (k2, .inl (cI, 64, .inl pp)), (k3, .inl (cI, 64, .inl qq)), (p, .inr (1, [.ref pX, .ref pY, .ref pF, .ref pC, .ref pA, .ref pB, .ref pR, .ref pK, .int nv, .int ns, .int nw])), (pX, .inl (cI, 64, .inl vx)), (pY, .inl (cI, 64, .inl vy)), (pA, .inl (cI, 64, .inl fa)), (pB, .inl (cI, 64, .inl tb)), (o, .inr (3, [.int ox, .int oy, .int oa, .int os]))] H := hP
        replace hD : va_D A [(k, .inr (4, [.ref k1, .ref k2, .ref k3, .int nk, .int fs])), (k2, .inl (cI, 64, .inl pp)), (k3, .inl (cI, 64, .inl qq)), (p, .inr (1, [.ref pX, .ref pY, .ref pF, .ref pC, .ref pA, .ref pB, .ref pR, .ref pK, .int nv, .int ns, .int nw])), (pX, .inl (cI, 64, .inl vx)), (pY, .inl (cI, 64, .inl vy)), (pA, .inl (cI, 64, .inl fa)), (pB, .inl (cI, 64, .inl tb)), (o, .inr (3, [.int ox, .int oy, .int oa, .int os]))] := hD
        try dsimp only at hp_142
        subst hp_142
        refine va_iast hx hb hK hP hD hS 1 0 rfl rfl (by assumption) d_Cr_isCrossed_145 (fun H locs hP hD hS => ?_)
        replace hP : va_P D sw_cl [(k, .inr (4, [.ref k1, .ref k2, .ref k3, .int nk, .int fs])), (k2, .inl (cI, 64, .inl (upd pp x.toNatClampNeg (ax * (bz - ay) - ay * (bx - ax))))), (k3, .inl (cI, 64, .inl qq)), (p, .inr (1, [.ref pX, .ref pY, .ref pF, .ref pC, .ref pA, .ref pB, .ref pR, .ref pK, .int nv, .int ns, .int nw])), (pX, .inl (cI, 64, .inl vx)), (pY, .inl (cI, 64, .inl vy)), (pA, .inl (cI, 64, .inl fa)), (pB, .inl (cI, 64, .inl tb)), (o, .inr (3, [.int ox, .int oy, .int oa, .int os]))] H := hP
        replace hD : va_D A [(k, .inr (4, [.ref k1, .ref k2, .ref k3, .int nk, .int fs])), (k2, .inl (cI, 64, .inl (upd pp x.toNatClampNeg (ax * (bz - ay) - ay * (bx - ax))))), (k3, .inl (cI, 64, .inl qq)), (p, .inr (1, [.ref pX, .ref pY, .ref pF, .ref pC, .ref pA, .ref pB, .ref pR, .ref pK, .int nv, .int ns, .int nw])), (pX, .inl (cI, 64, .inl vx)), (pY, .inl (cI, 64, .inl vy)), (pA, .inl (cI, 64, .inl fa)), (pB, .inl (cI, 64, .inl tb)), (o, .inr (3, [.int ox, .int oy, .int oa, .int os]))] := hD
        refine lv_aload_n hx hb d_Cr_isCrossed_146 rfl (lv_at hl 6 rfl) ?_
        refine va_get (D := D) (ci := 4) (v := .ref k3) (C := R_Cr) (T := F_Cr) (N := 5) hx hb hw ku_Cr hown hK hP 0 rfl rfl 2 (by decide) (hw _ kw_47a18be0) (fun _ h9 => h9) rfl d_Cr_isCrossed_147 ?_
        refine lv_iload_n hx hb d_Cr_isCrossed_150 rfl (lv_at hl 8 rfl) ?_
        refine lv_iload hx hb d_Cr_isCrossed_151 (lv_at hl 0 rfl) ?_
        refine lv_iload hx hb d_Cr_isCrossed_153 (lv_at hl 1 rfl) ?_
        refine lv_isub hx hb d_Cr_isCrossed_155 ?_
        refine va_iast hx hb hK hP hD hS 2 0 rfl rfl (by assumption) d_Cr_isCrossed_156 (fun H locs hP hD hS => ?_)
        replace hP : va_P D sw_cl [(k, .inr (4, [.ref k1, .ref k2, .ref k3, .int nk, .int fs])), (k2, .inl (cI, 64, .inl (upd pp x.toNatClampNeg (ax * (bz - ay) - ay * (bx - ax))))), (k3, .inl (cI, 64, .inl (upd qq x.toNatClampNeg (cb - ca)))), (p, .inr (1, [.ref pX, .ref pY, .ref pF, .ref pC, .ref pA, .ref pB, .ref pR, .ref pK, .int nv, .int ns, .int nw])), (pX, .inl (cI, 64, .inl vx)), (pY, .inl (cI, 64, .inl vy)), (pA, .inl (cI, 64, .inl fa)), (pB, .inl (cI, 64, .inl tb)), (o, .inr (3, [.int ox, .int oy, .int oa, .int os]))] H := hP
        replace hD : va_D A [(k, .inr (4, [.ref k1, .ref k2, .ref k3, .int nk, .int fs])), (k2, .inl (cI, 64, .inl (upd pp x.toNatClampNeg (ax * (bz - ay) - ay * (bx - ax))))), (k3, .inl (cI, 64, .inl (upd qq x.toNatClampNeg (cb - ca)))), (p, .inr (1, [.ref pX, .ref pY, .ref pF, .ref pC, .ref pA, .ref pB, .ref pR, .ref pK, .int nv, .int ns, .int nw])), (pX, .inl (cI, 64, .inl vx)), (pY, .inl (cI, 64, .inl vy)), (pA, .inl (cI, 64, .inl fa)), (pB, .inl (cI, 64, .inl tb)), (o, .inr (3, [.int ox, .int oy, .int oa, .int os]))] := hD
        refine lv_aload_n hx hb d_Cr_isCrossed_157 rfl (lv_at hl 6 rfl) ?_
        refine va_get (D := D) (ci := 4) (v := .ref k2) (C := R_Cr) (T := F_Cr) (N := 5) hx hb hw ku_Cr hown hK hP 0 rfl rfl 1 (by decide) (hw _ kw_600bd2b2) (fun _ h9 => h9) rfl d_Cr_isCrossed_158 ?_
        refine lv_iload_n hx hb d_Cr_isCrossed_161 rfl (lv_at hl 8 rfl) ?_
        refine va_iald hx hb hK hP 1 0 rfl rfl (by assumption) d_Cr_isCrossed_162 ?_
        refine lv_aload_n hx hb d_Cr_isCrossed_163 rfl (lv_at hl 6 rfl) ?_
        refine va_get (D := D) (ci := 4) (v := .ref k3) (C := R_Cr) (T := F_Cr) (N := 5) hx hb hw ku_Cr hown hK hP 0 rfl rfl 2 (by decide) (hw _ kw_47a18be0) (fun _ h9 => h9) rfl d_Cr_isCrossed_164 ?_
        refine lv_iload_n hx hb d_Cr_isCrossed_167 rfl (lv_at hl 8 rfl) ?_
        refine va_iald hx hb hK hP 2 0 rfl rfl (by assumption) d_Cr_isCrossed_168 ?_
        refine sw_ki0 (wr := [(k, .inr (4, [.ref k1, .ref k2, .ref k3, .int nk, .int fs])), (k2, .inl (cI, 64, .inl (upd pp x.toNatClampNeg (ax * (bz - ay) - ay * (bx - ax))))), (k3, .inl (cI, 64, .inl (upd qq x.toNatClampNeg (cb - ca)))), (p, .inr (1, [.ref pX, .ref pY, .ref pF, .ref pC, .ref pA, .ref pB, .ref pR, .ref pK, .int nv, .int ns, .int nw])), (pX, .inl (cI, 64, .inl vx)), (pY, .inl (cI, 64, .inl vy)), (pA, .inl (cI, 64, .inl fa)), (pB, .inl (cI, 64, .inl tb)), (o, .inr (3, [.int ox, .int oy, .int oa, .int os]))]) (va_runS (As := [.int ((upd pp x.toNatClampNeg (ax * (bz - ay) - ay * (bx - ax))) x.toNatClampNeg), .int ((upd qq x.toNatClampNeg (cb - ca)) x.toNatClampNeg)]) (rest := []) ⟨hx, hb, hml, hown, hw⟩ (c_Cr_isUpToOne l D cI cL tq _ ((upd pp x.toNatClampNeg (ax * (bz - ay) - ay * (bx - ax))) x.toNatClampNeg) ((upd qq x.toNatClampNeg (cb - ca)) x.toNatClampNeg)) (cwS 2 hw (sw_gS kw_c47a1d87 kw_b5409a40 kw_7f626125 kc_Cr_isUpToOne) rfl rfl rfl ⟨rfl, yd_Cr_isUpToOne⟩ ⟨Nat.le_of_ble_eq_true rfl, Nat.le_of_ble_eq_true rfl⟩) (sw_preS hK hP hD hS hA hG [] rfl (by decide)) rfl rfl hl.1 rfl (lv_room (Nat.le_of_ble_eq_true rfl)) d_Cr_isCrossed_169 ⟨Nat.le_of_ble_eq_true rfl, Nat.le_of_ble_eq_true rfl⟩) hP hD hS hA [] [0, 1, 2, 3, 4, 5, 6, 7, 8] rfl rfl (by decide) (by decide) (fun r_169 _ H locs hp_169 hP hD hS => ?_)
        replace hP : va_P D sw_cl [(k, .inr (4, [.ref k1, .ref k2, .ref k3, .int nk, .int fs])), (k2, .inl (cI, 64, .inl (upd pp x.toNatClampNeg (ax * (bz - ay) - ay * (bx - ax))))), (k3, .inl (cI, 64, .inl (upd qq x.toNatClampNeg (cb - ca)))), (p, .inr (1, [.ref pX, .ref pY, .ref pF, .ref pC, .ref pA, .ref pB, .ref pR, .ref pK, .int nv, .int ns, .int nw])), (pX, .inl (cI, 64, .inl vx)), (pY, .inl (cI, 64, .inl vy)), (pA, .inl (cI, 64, .inl fa)), (pB, .inl (cI, 64, .inl tb)), (o, .inr (3, [.int ox, .int oy, .int oa, .int os]))] H := hP
        replace hD : va_D A [(k, .inr (4, [.ref k1, .ref k2, .ref k3, .int nk, .int fs])), (k2, .inl (cI, 64, .inl (upd pp x.toNatClampNeg (ax * (bz - ay) - ay * (bx - ax))))), (k3, .inl (cI, 64, .inl (upd qq x.toNatClampNeg (cb - ca)))), (p, .inr (1, [.ref pX, .ref pY, .ref pF, .ref pC, .ref pA, .ref pB, .ref pR, .ref pK, .int nv, .int ns, .int nw])), (pX, .inl (cI, 64, .inl vx)), (pY, .inl (cI, 64, .inl vy)), (pA, .inl (cI, 64, .inl fa)), (pB, .inl (cI, 64, .inl tb)), (o, .inr (3, [.int ox, .int oy, .int oa, .int os]))] := hD
        try dsimp only at hp_169
        subst hp_169
        have hP9 := hP.sub (ws' := [(k, .inr (4, [.ref k1, .ref k2, .ref k3, .int nk, .int fs])), (k2, .inl (cI, 64, .inl (upd pp x.toNatClampNeg (ax * (bz - ay) - ay * (bx - ax))))), (k3, .inl (cI, 64, .inl (upd qq x.toNatClampNeg (cb - ca)))), (p, .inr (1, [.ref pX, .ref pY, .ref pF, .ref pC, .ref pA, .ref pB, .ref pR, .ref pK, .int nv, .int ns, .int nw])), (pX, .inl (cI, 64, .inl vx)), (pY, .inl (cI, 64, .inl vy)), (pA, .inl (cI, 64, .inl fa)), (pB, .inl (cI, 64, .inl tb)), (o, .inr (3, [.int ox, .int oy, .int oa, .int os]))]) [0, 1, 2, 3, 4, 5, 6, 7, 8] rfl
        have hD9 := hD.sub (ws' := [(k, .inr (4, [.ref k1, .ref k2, .ref k3, .int nk, .int fs])), (k2, .inl (cI, 64, .inl (upd pp x.toNatClampNeg (ax * (bz - ay) - ay * (bx - ax))))), (k3, .inl (cI, 64, .inl (upd qq x.toNatClampNeg (cb - ca)))), (p, .inr (1, [.ref pX, .ref pY, .ref pF, .ref pC, .ref pA, .ref pB, .ref pR, .ref pK, .int nv, .int ns, .int nw])), (pX, .inl (cI, 64, .inl vx)), (pY, .inl (cI, 64, .inl vy)), (pA, .inl (cI, 64, .inl fa)), (pB, .inl (cI, 64, .inl tb)), (o, .inr (3, [.int ox, .int oy, .int oa, .int os]))]) [0, 1, 2, 3, 4, 5, 6, 7, 8] (by decide) rfl
        exact W.zret (ty := .boolean) (v := sw_b (sw_up1 ((upd pp x.toNatClampNeg (ax * (bz - ay) - ay * (bx - ax))) x.toNatClampNeg) ((upd qq x.toNatClampNeg (cb - ca)) x.toNatClampNeg))) hx hb hr (sw_bnar _) (fun T9 hT9 hW9 => ⟨⟨sw_b (sw_up1 ((upd pp x.toNatClampNeg (ax * (bz - ay) - ay * (bx - ax))) x.toNatClampNeg) ((upd qq x.toNatClampNeg (cb - ca)) x.toNatClampNeg)), (upd pp x.toNatClampNeg (ax * (bz - ay) - ay * (bx - ax)), upd qq x.toNatClampNeg (cb - ca)), rfl, by subst e_cb e_ca e_bz e_bx e_ay e_ax; simp [sw_isc, sw_cra, sw_crp, upd, c_100, c_110, c_118], by rw [hT9]; exact hP9, hD9⟩, hS.F hT9⟩) hS.2.2 d_Cr_isCrossed_172
      · skip
        exact absurd c_118 (by decide)
    · skip
      refine lv_iconst (v := 1) hx hb d_Cr_isCrossed_113 (by decide) ?_
      refine lv_goto (tgt := 118) hx hb d_Cr_isCrossed_114 (by decide) ?_
      refine lv_icmp_ne (tgt := 123) hx hb d_Cr_isCrossed_118 (by decide) (fun c_118 => ?_) (fun c_118 => ?_)
      · skip
        exact absurd rfl c_118
      · skip
        refine lv_iconst (v := 0) hx hb d_Cr_isCrossed_121 (by decide) ?_
        have hP9 := hP.sub (ws' := [(k, .inr (4, [.ref k1, .ref k2, .ref k3, .int nk, .int fs])), (k2, .inl (cI, 64, .inl pp)), (k3, .inl (cI, 64, .inl qq)), (p, .inr (1, [.ref pX, .ref pY, .ref pF, .ref pC, .ref pA, .ref pB, .ref pR, .ref pK, .int nv, .int ns, .int nw])), (pX, .inl (cI, 64, .inl vx)), (pY, .inl (cI, 64, .inl vy)), (pA, .inl (cI, 64, .inl fa)), (pB, .inl (cI, 64, .inl tb)), (o, .inr (3, [.int ox, .int oy, .int oa, .int os]))]) [0, 1, 2, 3, 4, 5, 6, 7, 8] rfl
        have hD9 := hD.sub (ws' := [(k, .inr (4, [.ref k1, .ref k2, .ref k3, .int nk, .int fs])), (k2, .inl (cI, 64, .inl pp)), (k3, .inl (cI, 64, .inl qq)), (p, .inr (1, [.ref pX, .ref pY, .ref pF, .ref pC, .ref pA, .ref pB, .ref pR, .ref pK, .int nv, .int ns, .int nw])), (pX, .inl (cI, 64, .inl vx)), (pY, .inl (cI, 64, .inl vy)), (pA, .inl (cI, 64, .inl fa)), (pB, .inl (cI, 64, .inl tb)), (o, .inr (3, [.int ox, .int oy, .int oa, .int os]))]) [0, 1, 2, 3, 4, 5, 6, 7, 8] (by decide) rfl
        exact W.zret (ty := .boolean) (v := 0) hx hb hr (rfl) (fun T9 hT9 hW9 => ⟨⟨0, (pp, qq), rfl, by subst e_cb e_ca e_bz e_bx e_ay e_ax; simp [sw_isc, sw_cra, sw_crp, upd, c_100, c_110, c_118], by rw [hT9]; exact hP9, hD9⟩, hS.F hT9⟩) hS.2.2 d_Cr_isCrossed_122

abbrev rm_Cr_fill : Room := { frames := 3, cells := 0, slots := 0, locals := 63 }
abbrev q_Cr_fill (D : va_G) (cI cL : ClassId) (A : Nat → Prop) (k : Nat) (p : Nat) (o : Nat) (y : Int32) (z : Int32) (k1 : Nat) (k2 : Nat) (k3 : Nat) (od : Nat → Int32) (pp : Nat → Int32) (qq : Nat → Int32) (pX : Nat) (pY : Nat) (pF : Nat) (pC : Nat) (pA : Nat) (pB : Nat) (pR : Nat) (pK : Nat) (nv : Int32) (ns : Int32) (nw : Int32) (vx : Nat → Int32) (vy : Nat → Int32) (fl : Nat → Int32) (ce : Nat → Int32) (fa : Nat → Int32) (tb : Nat → Int32) (fr : Nat → Int32) (bk : Nat → Int32) (ox : Int32) (oy : Int32) (oa : Int32) (os : Int32) : Array Value → State → Outcome → State → Prop := va_Qv (S := Int32 × Int32 × (Nat → Int32) × (Nat → Int32) × (Nat → Int32)) (fun (u : Int32 × Int32 × (Nat → Int32) × (Nat → Int32) × (Nat → Int32)) => match u with | (nk2, fs2, od2, pp2, qq2) => nk2 = ((sw_fs1 vx vy fa tb ox oy y z od pp qq nw.toNatClampNeg).1) ∧ fs2 = (sw_fst (fun v : Int32 => sw_stop fl ce fr bk v.toNatClampNeg (!(decide (0 ≤ (sw_fs1 vx vy fa tb ox oy y z od pp qq nw.toNatClampNeg).2.2.1 v.toNatClampNeg)))) (sw_fs1 vx vy fa tb ox oy y z od pp qq nw.toNatClampNeg).2.1 (sw_fs1 vx vy fa tb ox oy y z od pp qq nw.toNatClampNeg).1.toNatClampNeg) ∧ od2 = ((sw_fs1 vx vy fa tb ox oy y z od pp qq nw.toNatClampNeg).2.1) ∧ pp2 = ((sw_fs1 vx vy fa tb ox oy y z od pp qq nw.toNatClampNeg).2.2.1) ∧ qq2 = ((sw_fs1 vx vy fa tb ox oy y z od pp qq nw.toNatClampNeg).2.2.2)) (sw_R D A (fun (u : Int32 × Int32 × (Nat → Int32) × (Nat → Int32) × (Nat → Int32)) => match u with | (nk2, fs2, od2, pp2, qq2) => [(k, .inr (4, [.ref k1, .ref k2, .ref k3, .int nk2, .int fs2])), (k1, .inl (cI, 64, .inl od2)), (k2, .inl (cI, 64, .inl pp2)), (k3, .inl (cI, 64, .inl qq2)), (p, .inr (1, [.ref pX, .ref pY, .ref pF, .ref pC, .ref pA, .ref pB, .ref pR, .ref pK, .int nv, .int ns, .int nw])), (pX, .inl (cI, 64, .inl vx)), (pY, .inl (cI, 64, .inl vy)), (pF, .inl (cI, 16, .inl fl)), (pC, .inl (cI, 16, .inl ce)), (pA, .inl (cI, 64, .inl fa)), (pB, .inl (cI, 64, .inl tb)), (pR, .inl (cI, 64, .inl fr)), (pK, .inl (cI, 64, .inl bk)), (o, .inr (3, [.int ox, .int oy, .int oa, .int os]))])) A
set_option maxHeartbeats 4000000 in
set_option maxRecDepth 100000 in
theorem c_Cr_fill (l : Launch) (D : va_G) (cI cL : ClassId) (tq sz : Nat) (k : Nat) (p : Nat) (o : Nat) (y : Int32) (z : Int32) (k1 : Nat) (k2 : Nat) (k3 : Nat) (od : Nat → Int32) (pp : Nat → Int32) (qq : Nat → Int32) (pX : Nat) (pY : Nat) (pF : Nat) (pC : Nat) (pA : Nat) (pB : Nat) (pR : Nat) (pK : Nat) (nv : Int32) (ns : Int32) (nw : Int32) (vx : Nat → Int32) (vy : Nat → Int32) (fl : Nat → Int32) (ce : Nat → Int32) (fa : Nat → Int32) (tb : Nat → Int32) (fr : Nat → Int32) (bk : Nat → Int32) (ox : Int32) (oy : Int32) (oa : Int32) (os : Int32) (hn : sw_ok nw 64) (hv : ∀ j : Nat, j < nw.toNatClampNeg → vp_in (fa j) 64 ∧ vp_in (tb j) 64 ∧ vp_in (fr j) 16 ∧ (bk j = -1 ∨ vp_in (bk j) 16)) : Met l y_Cr_fill w_Cr_fill rm_Cr_fill (va_Pc [.ref k, .ref p, .ref o, .int y, .int z] (sw_B D cI cL tq sz [(k, .inr (4, [.ref k1, .ref k2, .ref k3, .int 0, .int (-1)])), (k1, .inl (cI, 64, .inl od)), (k2, .inl (cI, 64, .inl pp)), (k3, .inl (cI, 64, .inl qq)), (p, .inr (1, [.ref pX, .ref pY, .ref pF, .ref pC, .ref pA, .ref pB, .ref pR, .ref pK, .int nv, .int ns, .int nw])), (pX, .inl (cI, 64, .inl vx)), (pY, .inl (cI, 64, .inl vy)), (pF, .inl (cI, 16, .inl fl)), (pC, .inl (cI, 16, .inl ce)), (pA, .inl (cI, 64, .inl fa)), (pB, .inl (cI, 64, .inl tb)), (pR, .inl (cI, 64, .inl fr)), (pK, .inl (cI, 64, .inl bk)), (o, .inr (3, [.int ox, .int oy, .int oa, .int os]))])) (q_Cr_fill D cI cL (va_A [(k, .inr (4, [.ref k1, .ref k2, .ref k3, .int 0, .int (-1)])), (k1, .inl (cI, 64, .inl od)), (k2, .inl (cI, 64, .inl pp)), (k3, .inl (cI, 64, .inl qq)), (p, .inr (1, [.ref pX, .ref pY, .ref pF, .ref pC, .ref pA, .ref pB, .ref pR, .ref pK, .int nv, .int ns, .int nw])), (pX, .inl (cI, 64, .inl vx)), (pY, .inl (cI, 64, .inl vy)), (pF, .inl (cI, 16, .inl fl)), (pC, .inl (cI, 16, .inl ce)), (pA, .inl (cI, 64, .inl fa)), (pB, .inl (cI, 64, .inl tb)), (pR, .inl (cI, 64, .inl fr)), (pK, .inl (cI, 64, .inl bk)), (o, .inr (3, [.int ox, .int oy, .int oa, .int os]))] sz) k p o y z k1 k2 k3 od pp qq pX pY pF pC pA pB pR pK nv ns nw vx vy fl ce fa tb fr bk ox oy oa os) 0 0 (va_A [(k, .inr (4, [.ref k1, .ref k2, .ref k3, .int 0, .int (-1)])), (k1, .inl (cI, 64, .inl od)), (k2, .inl (cI, 64, .inl pp)), (k3, .inl (cI, 64, .inl qq)), (p, .inr (1, [.ref pX, .ref pY, .ref pF, .ref pC, .ref pA, .ref pB, .ref pR, .ref pK, .int nv, .int ns, .int nw])), (pX, .inl (cI, 64, .inl vx)), (pY, .inl (cI, 64, .inl vy)), (pF, .inl (cI, 16, .inl fl)), (pC, .inl (cI, 16, .inl ce)), (pA, .inl (cI, 64, .inl fa)), (pB, .inl (cI, 64, .inl tb)), (pR, .inl (cI, 64, .inl fr)), (pK, .inl (cI, 64, .inl bk)), (o, .inr (3, [.int ox, .int oy, .int oa, .int os]))] sz) := by
  refine Met.ofW (cc := b_Cr_fill) (maxL := 6) (ret := none) (by decide) rfl ?_
  intro mp me s mm args below meth mk s₁ B hml hv
  obtain ⟨rfl, hsz, hP, hK, hD0, hG⟩ := hv
  have hx := B.exec
  have hb := B.bytes
  have hr := B.returns
  have hts := atoms_spec (ws := w_Cr_fill) B.pre
  have hw : ∀ w ∈ sw_words, w.before _ s = true := fun w h => hts w (List.mem_cons_of_mem _ h)
  have hown : s.vm.findClass R_Cr = some mm.cls := findClass_of_methodNamed B.named
  have hlocks := B.notSynchronized
  subst hsz
  have hD := hD0.self (sz := s.heap.size)
  generalize hAe : va_A [(k, .inr (4, [.ref k1, .ref k2, .ref k3, .int 0, .int (-1)])), (k1, .inl (cI, 64, .inl od)), (k2, .inl (cI, 64, .inl pp)), (k3, .inl (cI, 64, .inl qq)), (p, .inr (1, [.ref pX, .ref pY, .ref pF, .ref pC, .ref pA, .ref pB, .ref pR, .ref pK, .int nv, .int ns, .int nw])), (pX, .inl (cI, 64, .inl vx)), (pY, .inl (cI, 64, .inl vy)), (pF, .inl (cI, 16, .inl fl)), (pC, .inl (cI, 16, .inl ce)), (pA, .inl (cI, 64, .inl fa)), (pB, .inl (cI, 64, .inl tb)), (pR, .inl (cI, 64, .inl fr)), (pK, .inl (cI, 64, .inl bk)), (o, .inr (3, [.int ox, .int oy, .int oa, .int os]))] s.heap.size = A at hD hG ⊢
  have hA : ∀ q : Nat, s.heap.size ≤ q → A q := fun q h => by rw [← hAe]; exact Or.inr h
  have hS : va_S A s.heap s.heap [] := va_S.rf
  have hl := lv_entry ([.ref k, .ref p, .ref o, .int y, .int z]) (n := 6) (Nat.le_of_ble_eq_true rfl)
  rw [lg_entry_eq]
  generalize (lg_sl ([.ref k, .ref p, .ref o, .int y, .int z]) ++ List.replicate (6 - (lg_sl ([.ref k, .ref p, .ref o, .int y, .int z])).length) Slot.unset).toArray = ls at hl ⊢
  have hl : lv_has ls 6 [(0, .ref k), (1, .ref p), (2, .ref o), (3, .int y), (4, .int z)] := hl
  have hn6 := hn.2
  refine lv_iconst (v := 0) hx hb d_Cr_fill_0 (by decide) ?_
  refine lv_istore (lv' := [(5, .int 0), (0, .ref k), (1, .ref p), (2, .ref o), (3, .int y), (4, .int z)]) hx hb d_Cr_fill_1 hl (by decide) rfl (fun ls hl => ?_)
  have lp_3 : ∀ (n : Nat) (q : Nat) (i : Int32) (n1 : Int32) (f1 : Nat → Int32) (f2 : Nat → Int32) (f3 : Nat → Int32) (H : Heap) (locs : List Loc) (ls : Array Slot), (i = nI q) → (q ≤ nw.toNatClampNeg) → ((n1, f1, f2, f3) = sw_fs1 vx vy fa tb ox oy y z od pp qq q) → (sw_od n1 f1 q) → (nw.toNatClampNeg - q) < n → va_P D sw_cl [(k, .inr (4, [.ref k1, .ref k2, .ref k3, .int n1, .int (-1)])), (k1, .inl (cI, 64, .inl f1)), (k2, .inl (cI, 64, .inl f2)), (k3, .inl (cI, 64, .inl f3)), (p, .inr (1, [.ref pX, .ref pY, .ref pF, .ref pC, .ref pA, .ref pB, .ref pR, .ref pK, .int nv, .int ns, .int nw])), (pX, .inl (cI, 64, .inl vx)), (pY, .inl (cI, 64, .inl vy)), (pF, .inl (cI, 16, .inl fl)), (pC, .inl (cI, 16, .inl ce)), (pA, .inl (cI, 64, .inl fa)), (pB, .inl (cI, 64, .inl tb)), (pR, .inl (cI, 64, .inl fr)), (pK, .inl (cI, 64, .inl bk)), (o, .inr (3, [.int ox, .int oy, .int oa, .int os]))] H → va_D A [(k, .inr (4, [.ref k1, .ref k2, .ref k3, .int n1, .int (-1)])), (k1, .inl (cI, 64, .inl f1)), (k2, .inl (cI, 64, .inl f2)), (k3, .inl (cI, 64, .inl f3)), (p, .inr (1, [.ref pX, .ref pY, .ref pF, .ref pC, .ref pA, .ref pB, .ref pR, .ref pK, .int nv, .int ns, .int nw])), (pX, .inl (cI, 64, .inl vx)), (pY, .inl (cI, 64, .inl vy)), (pF, .inl (cI, 16, .inl fl)), (pC, .inl (cI, 16, .inl ce)), (pA, .inl (cI, 64, .inl fa)), (pB, .inl (cI, 64, .inl tb)), (pR, .inl (cI, 64, .inl fr)), (pK, .inl (cI, 64, .inl bk)), (o, .inr (3, [.int ox, .int oy, .int oa, .int os]))] → va_S A s.heap H locs → lv_has ls 6 [(0, .ref k), (1, .ref p), (2, .ref o), (3, .int y), (4, .int z), (5, .int i)] → W mp l me (headSpec w_Cr_fill rm_Cr_fill).room s mm ([.ref k, .ref p, .ref o, .int y, .int z]).toArray below meth mk H locs 0 0 (MQ below (q_Cr_fill D cI cL A k p o y z k1 k2 k3 od pp qq pX pY pF pC pA pB pR pK nv ns nw vx vy fl ce fa tb fr bk ox oy oa os) ([.ref k, .ref p, .ref o, .int y, .int z]).toArray s 0 0 A) (F0 mm 3 ls []) := by
    intro n
    induction n with
    | zero => intro q i n1 f1 f2 f3 H locs ls hi hq hs ho hm; exact absurd hm (Nat.not_lt_zero _)
    | succ n ih_3 =>
      intro q i n1 f1 f2 f3 H locs ls hi hq hs ho hm hP hD hS hl
      refine lv_iload hx hb d_Cr_fill_3 (lv_at hl 5 rfl) ?_
      refine lv_aload_n hx hb d_Cr_fill_5 rfl (lv_at hl 1 rfl) ?_
      refine va_get (D := D) (ci := 1) (v := .int nw) (C := R_Pl) (T := F_Pl) (N := 11) hx hb hw ku_Pl hown hK hP 4 rfl rfl 10 (by decide) (hw _ kw_0adfc9a3) (fun _ h9 => h9) rfl d_Cr_fill_6 ?_
      refine lv_icmp_ge (tgt := 38) hx hb d_Cr_fill_9 (by decide) (fun c_9 => ?_) (fun c_9 => ?_)
      · skip
        have hqe : nw.toNatClampNeg = q := sw_end hn (by decide) hi hq c_9
        have hn1 : sw_ok n1 64 := sw_ok_mono ho.1 (by omega)
        have hn7 := hn1.2
        refine lv_iconst (v := 0) hx hb d_Cr_fill_38 (by decide) ?_
        refine lv_istore (lv' := [(5, .int 0), (0, .ref k), (1, .ref p), (2, .ref o), (3, .int y), (4, .int z)]) hx hb d_Cr_fill_39 hl (by decide) rfl (fun ls hl => ?_)
        have lp_41 : ∀ (n : Nat) (a : Nat) (j : Int32) (f5 : Int32) (H : Heap) (locs : List Loc) (ls : Array Slot), (j = nI a) → (a ≤ n1.toNatClampNeg) → (f5 = sw_fst (fun v : Int32 => sw_stop fl ce fr bk v.toNatClampNeg (!(decide (0 ≤ f2 v.toNatClampNeg)))) f1 a) → (n1.toNatClampNeg - a) < n → va_P D sw_cl [(k, .inr (4, [.ref k1, .ref k2, .ref k3, .int n1, .int f5])), (k1, .inl (cI, 64, .inl f1)), (k2, .inl (cI, 64, .inl f2)), (k3, .inl (cI, 64, .inl f3)), (p, .inr (1, [.ref pX, .ref pY, .ref pF, .ref pC, .ref pA, .ref pB, .ref pR, .ref pK, .int nv, .int ns, .int nw])), (pX, .inl (cI, 64, .inl vx)), (pY, .inl (cI, 64, .inl vy)), (pF, .inl (cI, 16, .inl fl)), (pC, .inl (cI, 16, .inl ce)), (pA, .inl (cI, 64, .inl fa)), (pB, .inl (cI, 64, .inl tb)), (pR, .inl (cI, 64, .inl fr)), (pK, .inl (cI, 64, .inl bk)), (o, .inr (3, [.int ox, .int oy, .int oa, .int os]))] H → va_D A [(k, .inr (4, [.ref k1, .ref k2, .ref k3, .int n1, .int f5])), (k1, .inl (cI, 64, .inl f1)), (k2, .inl (cI, 64, .inl f2)), (k3, .inl (cI, 64, .inl f3)), (p, .inr (1, [.ref pX, .ref pY, .ref pF, .ref pC, .ref pA, .ref pB, .ref pR, .ref pK, .int nv, .int ns, .int nw])), (pX, .inl (cI, 64, .inl vx)), (pY, .inl (cI, 64, .inl vy)), (pF, .inl (cI, 16, .inl fl)), (pC, .inl (cI, 16, .inl ce)), (pA, .inl (cI, 64, .inl fa)), (pB, .inl (cI, 64, .inl tb)), (pR, .inl (cI, 64, .inl fr)), (pK, .inl (cI, 64, .inl bk)), (o, .inr (3, [.int ox, .int oy, .int oa, .int os]))] → va_S A s.heap H locs → lv_has ls 6 [(0, .ref k), (1, .ref p), (2, .ref o), (3, .int y), (4, .int z), (5, .int j)] → W mp l me (headSpec w_Cr_fill rm_Cr_fill).room s mm ([.ref k, .ref p, .ref o, .int y, .int z]).toArray below meth mk H locs 0 0 (MQ below (q_Cr_fill D cI cL A k p o y z k1 k2 k3 od pp qq pX pY pF pC pA pB pR pK nv ns nw vx vy fl ce fa tb fr bk ox oy oa os) ([.ref k, .ref p, .ref o, .int y, .int z]).toArray s 0 0 A) (F0 mm 41 ls []) := by
          intro n
          induction n with
          | zero => intro a j f5 H locs ls hj ha hf5 hm; exact absurd hm (Nat.not_lt_zero _)
          | succ n ih_41 =>
            intro a j f5 H locs ls hj ha hf5 hm hP hD hS hl
            refine lv_iload hx hb d_Cr_fill_41 (lv_at hl 5 rfl) ?_
            refine lv_aload_n hx hb d_Cr_fill_43 rfl (lv_at hl 0 rfl) ?_
            refine va_get (D := D) (ci := 4) (v := .int n1) (C := R_Cr) (T := F_Cr) (N := 5) hx hb hw ku_Cr hown hK hP 0 rfl rfl 3 (by decide) (hw _ kw_7f5cc8e8) (fun _ h9 => h9) rfl d_Cr_fill_44 ?_
            refine lv_icmp_ge (tgt := 100) hx hb d_Cr_fill_47 (by decide) (fun c_47 => ?_) (fun c_47 => ?_)
            · skip
              have hP9 := hP.sub (ws' := [(k, .inr (4, [.ref k1, .ref k2, .ref k3, .int n1, .int f5])), (k1, .inl (cI, 64, .inl f1)), (k2, .inl (cI, 64, .inl f2)), (k3, .inl (cI, 64, .inl f3)), (p, .inr (1, [.ref pX, .ref pY, .ref pF, .ref pC, .ref pA, .ref pB, .ref pR, .ref pK, .int nv, .int ns, .int nw])), (pX, .inl (cI, 64, .inl vx)), (pY, .inl (cI, 64, .inl vy)), (pF, .inl (cI, 16, .inl fl)), (pC, .inl (cI, 16, .inl ce)), (pA, .inl (cI, 64, .inl fa)), (pB, .inl (cI, 64, .inl tb)), (pR, .inl (cI, 64, .inl fr)), (pK, .inl (cI, 64, .inl bk)), (o, .inr (3, [.int ox, .int oy, .int oa, .int os]))]) [0, 1, 2, 3, 4, 5, 6, 7, 8, 9, 10, 11, 12, 13] rfl
              have hD9 := hD.sub (ws' := [(k, .inr (4, [.ref k1, .ref k2, .ref k3, .int n1, .int f5])), (k1, .inl (cI, 64, .inl f1)), (k2, .inl (cI, 64, .inl f2)), (k3, .inl (cI, 64, .inl f3)), (p, .inr (1, [.ref pX, .ref pY, .ref pF, .ref pC, .ref pA, .ref pB, .ref pR, .ref pK, .int nv, .int ns, .int nw])), (pX, .inl (cI, 64, .inl vx)), (pY, .inl (cI, 64, .inl vy)), (pF, .inl (cI, 16, .inl fl)), (pC, .inl (cI, 16, .inl ce)), (pA, .inl (cI, 64, .inl fa)), (pB, .inl (cI, 64, .inl tb)), (pR, .inl (cI, 64, .inl fr)), (pK, .inl (cI, 64, .inl bk)), (o, .inr (3, [.int ox, .int oy, .int oa, .int os]))]) [0, 1, 2, 3, 4, 5, 6, 7, 8, 9, 10, 11, 12, 13] (by decide) rfl
              exact W.vret hx hb hr (fun T9 hT9 hW9 => ⟨⟨(n1, f5, f1, f2, f3), rfl, by first | trivial | (rw [hqe, ← hs]; refine ⟨rfl, ?_, rfl, rfl, rfl⟩; first | (rw [hf5, sw_end hn1 (by decide) hj ha c_47]) | (rw [hf5]; exact (sw_fst_stay (by rw [← hf5]; exact c_55) ha).symm)), by rw [hT9]; exact hP9, hD9⟩, hS.F hT9⟩) hS.2.2 d_Cr_fill_100
            · skip
              refine lv_aload_n hx hb d_Cr_fill_50 rfl (lv_at hl 0 rfl) ?_
              refine va_get (D := D) (ci := 4) (v := .int f5) (C := R_Cr) (T := F_Cr) (N := 5) hx hb hw ku_Cr hown hK hP 0 rfl rfl 4 (by decide) (hw _ kw_767774d4) (fun _ h9 => h9) rfl d_Cr_fill_51 ?_
              refine lv_iconst (v := (-1)) hx hb d_Cr_fill_54 (by decide) ?_
              refine lv_icmp_ne (tgt := 100) hx hb d_Cr_fill_55 (by decide) (fun c_55 => ?_) (fun c_55 => ?_)
              · skip
                have hP9 := hP.sub (ws' := [(k, .inr (4, [.ref k1, .ref k2, .ref k3, .int n1, .int f5])), (k1, .inl (cI, 64, .inl f1)), (k2, .inl (cI, 64, .inl f2)), (k3, .inl (cI, 64, .inl f3)), (p, .inr (1, [.ref pX, .ref pY, .ref pF, .ref pC, .ref pA, .ref pB, .ref pR, .ref pK, .int nv, .int ns, .int nw])), (pX, .inl (cI, 64, .inl vx)), (pY, .inl (cI, 64, .inl vy)), (pF, .inl (cI, 16, .inl fl)), (pC, .inl (cI, 16, .inl ce)), (pA, .inl (cI, 64, .inl fa)), (pB, .inl (cI, 64, .inl tb)), (pR, .inl (cI, 64, .inl fr)), (pK, .inl (cI, 64, .inl bk)), (o, .inr (3, [.int ox, .int oy, .int oa, .int os]))]) [0, 1, 2, 3, 4, 5, 6, 7, 8, 9, 10, 11, 12, 13] rfl
                have hD9 := hD.sub (ws' := [(k, .inr (4, [.ref k1, .ref k2, .ref k3, .int n1, .int f5])), (k1, .inl (cI, 64, .inl f1)), (k2, .inl (cI, 64, .inl f2)), (k3, .inl (cI, 64, .inl f3)), (p, .inr (1, [.ref pX, .ref pY, .ref pF, .ref pC, .ref pA, .ref pB, .ref pR, .ref pK, .int nv, .int ns, .int nw])), (pX, .inl (cI, 64, .inl vx)), (pY, .inl (cI, 64, .inl vy)), (pF, .inl (cI, 16, .inl fl)), (pC, .inl (cI, 16, .inl ce)), (pA, .inl (cI, 64, .inl fa)), (pB, .inl (cI, 64, .inl tb)), (pR, .inl (cI, 64, .inl fr)), (pK, .inl (cI, 64, .inl bk)), (o, .inr (3, [.int ox, .int oy, .int oa, .int os]))]) [0, 1, 2, 3, 4, 5, 6, 7, 8, 9, 10, 11, 12, 13] (by decide) rfl
                exact W.vret hx hb hr (fun T9 hT9 hW9 => ⟨⟨(n1, f5, f1, f2, f3), rfl, by first | trivial | (rw [hqe, ← hs]; refine ⟨rfl, ?_, rfl, rfl, rfl⟩; first | (rw [hf5, sw_end hn1 (by decide) hj ha c_47]) | (rw [hf5]; exact (sw_fst_stay (by rw [← hf5]; exact c_55) ha).symm)), by rw [hT9]; exact hP9, hD9⟩, hS.F hT9⟩) hS.2.2 d_Cr_fill_100
              · skip
                have hjn : a < n1.toNatClampNeg := sw_nle hn1 (by decide) hj ha c_47
                have hji : j.toNatClampNeg = a := by rw [hj]; exact nI_clamp (by omega)
                have hin1 : vp_in j 64 := by rw [hj]; exact vp_in_nI (by omega) (by omega)
                have hjv := sw_od_in ho hji hjn (by omega) (N := 64)
                have hj2 := hv (f1 j.toNatClampNeg).toNatClampNeg (by rw [hqe]; exact sw_od_lt ho hji hjn (by omega))
                refine lv_aload_n hx hb d_Cr_fill_58 rfl (lv_at hl 1 rfl) ?_
                refine lv_aload_n hx hb d_Cr_fill_59 rfl (lv_at hl 0 rfl) ?_
                refine va_get (D := D) (ci := 4) (v := .ref k1) (C := R_Cr) (T := F_Cr) (N := 5) hx hb hw ku_Cr hown hK hP 0 rfl rfl 0 (by decide) (hw _ kw_053bb905) (fun _ h9 => h9) rfl d_Cr_fill_60 ?_
                refine lv_iload hx hb d_Cr_fill_63 (lv_at hl 5 rfl) ?_
                refine va_iald hx hb hK hP 1 0 rfl rfl (by assumption) d_Cr_fill_65 ?_
                refine lv_aload_n hx hb d_Cr_fill_66 rfl (lv_at hl 0 rfl) ?_
                refine lv_aload_n hx hb d_Cr_fill_67 rfl (lv_at hl 0 rfl) ?_
                refine va_get (D := D) (ci := 4) (v := .ref k1) (C := R_Cr) (T := F_Cr) (N := 5) hx hb hw ku_Cr hown hK hP 0 rfl rfl 0 (by decide) (hw _ kw_053bb905) (fun _ h9 => h9) rfl d_Cr_fill_68 ?_
                refine lv_iload hx hb d_Cr_fill_71 (lv_at hl 5 rfl) ?_
                refine va_iald hx hb hK hP 1 0 rfl rfl (by assumption) d_Cr_fill_73 ?_
                refine sw_ki0 (wr := [(k1, .inl (cI, 64, .inl f1)), (k3, .inl (cI, 64, .inl f3)), (p, .inr (1, [.ref pX, .ref pY, .ref pF, .ref pC, .ref pA, .ref pB, .ref pR, .ref pK, .int nv, .int ns, .int nw])), (pX, .inl (cI, 64, .inl vx)), (pY, .inl (cI, 64, .inl vy)), (pF, .inl (cI, 16, .inl fl)), (pC, .inl (cI, 16, .inl ce)), (pA, .inl (cI, 64, .inl fa)), (pB, .inl (cI, 64, .inl tb)), (pR, .inl (cI, 64, .inl fr)), (pK, .inl (cI, 64, .inl bk)), (o, .inr (3, [.int ox, .int oy, .int oa, .int os]))]) (va_runV (As := [.int (f1 j.toNatClampNeg)]) (rest := [.int (f1 j.toNatClampNeg), .ref p]) ⟨hx, hb, hml, hown, hw⟩ (c_Cr_comesFromFront l D cI cL tq _ k (f1 j.toNatClampNeg) k1 k2 k3 n1 f5 f2 (hjv)) (cwV 1 hw (sw_gV kw_53f2f32e kw_fc808330 kw_c20cbe3c kw_7f626125 kc_Cr_comesFromFront) rfl rfl rfl ⟨rfl, yd_Cr_comesFromFront⟩ ⟨Nat.le_of_ble_eq_true rfl, Nat.le_of_ble_eq_true rfl⟩) (sw_preV hK hP hD hS hA hG [0, 2] rfl (by decide) 4 0 rfl rfl) rfl rfl hl.1 rfl (lv_room (Nat.le_of_ble_eq_true rfl)) d_Cr_fill_74 ⟨Nat.le_of_ble_eq_true rfl, Nat.le_of_ble_eq_true rfl⟩) hP hD hS hA [0, 2] [1, 3, 4, 5, 6, 7, 8, 9, 10, 11, 12, 13] rfl rfl (by decide) (by decide) (fun r_74 _ H locs hp_74 hP hD hS => ?_)
                replace hP : va_P D sw_cl [(k1, .inl (cI, 64, .inl f1)), (k3, .inl (cI, 64, .inl f3)), (p, .inr (1, [.ref pX, .ref pY, .ref pF, .ref pC, .ref pA, .ref pB, .ref pR, .ref pK, .int nv, .int ns, .int nw])), (pX, .inl (cI, 64, .inl vx)), (pY, .inl (cI, 64, .inl vy)), (pF, .inl (cI, 16, .inl fl)), (pC, .inl (cI, 16, .inl ce)), (pA, .inl (cI, 64, .inl fa)), (pB, .inl (cI, 64, .inl tb)), (pR, .inl (cI, 64, .inl fr)), (pK, .inl (cI, 64, .inl bk)), (o, .inr (3, [.int ox, .int oy, .int oa, .int os])), (k, .inr (4, [.ref k1, .ref k2, .ref k3, .int n1, .int f5])), (k2, .inl (cI, 64, .inl f2))] H := hP
                replace hD : va_D A [(k1, .inl (cI, 64, .inl f1)), (k3, .inl (cI, 64, .inl f3)), (p, .inr (1, [.ref pX, .ref pY, .ref pF, .ref pC, .ref pA, .ref pB, .ref pR, .ref pK, .int nv, .int ns, .int nw])), (pX, .inl (cI, 64, .inl vx)), (pY, .inl (cI, 64, .inl vy)), (pF, .inl (cI, 16, .inl fl)), (pC, .inl (cI, 16, .inl ce)), (pA, .inl (cI, 64, .inl fa)), (pB, .inl (cI, 64, .inl tb)), (pR, .inl (cI, 64, .inl fr)), (pK, .inl (cI, 64, .inl bk)), (o, .inr (3, [.int ox, .int oy, .int oa, .int os])), (k, .inr (4, [.ref k1, .ref k2, .ref k3, .int n1, .int f5])), (k2, .inl (cI, 64, .inl f2))] := hD
                try dsimp only at hp_74
                subst hp_74
                refine sw_ki0 (wr := [(k1, .inl (cI, 64, .inl f1)), (k3, .inl (cI, 64, .inl f3)), (pX, .inl (cI, 64, .inl vx)), (pY, .inl (cI, 64, .inl vy)), (pA, .inl (cI, 64, .inl fa)), (pB, .inl (cI, 64, .inl tb)), (o, .inr (3, [.int ox, .int oy, .int oa, .int os])), (k, .inr (4, [.ref k1, .ref k2, .ref k3, .int n1, .int f5])), (k2, .inl (cI, 64, .inl f2))]) (va_runV (As := [.int (f1 j.toNatClampNeg), .int (sw_b (!(decide (0 ≤ f2 (f1 j.toNatClampNeg).toNatClampNeg))))]) (rest := []) ⟨hx, hb, hml, hown, hw⟩ (c_Pl_stops l D cI cL tq _ p (f1 j.toNatClampNeg) (sw_b (!(decide (0 ≤ f2 (f1 j.toNatClampNeg).toNatClampNeg)))) pX pY pF pC pA pB pR pK nv ns nw fl ce fr bk (hjv) (hj2.2.2.1) (hj2.2.2.2)) (cwV 2 hw (sw_gV kw_3b5b9249 kw_b36b3d15 kw_4e123c4e kw_e4821dd4 kc_Pl_stops) rfl rfl rfl ⟨rfl, yd_Pl_stops⟩ ⟨Nat.le_of_ble_eq_true rfl, Nat.le_of_ble_eq_true rfl⟩) (sw_preV hK hP hD hS hA hG [2, 5, 6, 9, 10] rfl (by decide) 1 2 rfl rfl) rfl rfl hl.1 rfl (lv_room (Nat.le_of_ble_eq_true rfl)) d_Cr_fill_77 ⟨Nat.le_of_ble_eq_true rfl, Nat.le_of_ble_eq_true rfl⟩) hP hD hS hA [2, 5, 6, 9, 10] [0, 1, 3, 4, 7, 8, 11, 12, 13] rfl rfl (by decide) (by decide) (fun r_77 _ H locs hp_77 hP hD hS => ?_)
                replace hP : va_P D sw_cl [(k1, .inl (cI, 64, .inl f1)), (k3, .inl (cI, 64, .inl f3)), (pX, .inl (cI, 64, .inl vx)), (pY, .inl (cI, 64, .inl vy)), (pA, .inl (cI, 64, .inl fa)), (pB, .inl (cI, 64, .inl tb)), (o, .inr (3, [.int ox, .int oy, .int oa, .int os])), (k, .inr (4, [.ref k1, .ref k2, .ref k3, .int n1, .int f5])), (k2, .inl (cI, 64, .inl f2)), (p, .inr (1, [.ref pX, .ref pY, .ref pF, .ref pC, .ref pA, .ref pB, .ref pR, .ref pK, .int nv, .int ns, .int nw])), (pF, .inl (cI, 16, .inl fl)), (pC, .inl (cI, 16, .inl ce)), (pR, .inl (cI, 64, .inl fr)), (pK, .inl (cI, 64, .inl bk))] H := hP
                replace hD : va_D A [(k1, .inl (cI, 64, .inl f1)), (k3, .inl (cI, 64, .inl f3)), (pX, .inl (cI, 64, .inl vx)), (pY, .inl (cI, 64, .inl vy)), (pA, .inl (cI, 64, .inl fa)), (pB, .inl (cI, 64, .inl tb)), (o, .inr (3, [.int ox, .int oy, .int oa, .int os])), (k, .inr (4, [.ref k1, .ref k2, .ref k3, .int n1, .int f5])), (k2, .inl (cI, 64, .inl f2)), (p, .inr (1, [.ref pX, .ref pY, .ref pF, .ref pC, .ref pA, .ref pB, .ref pR, .ref pK, .int nv, .int ns, .int nw])), (pF, .inl (cI, 16, .inl fl)), (pC, .inl (cI, 16, .inl ce)), (pR, .inl (cI, 64, .inl fr)), (pK, .inl (cI, 64, .inl bk))] := hD
                try dsimp only at hp_77
                subst hp_77
                refine lv_if_eq (tgt := 94) hx hb d_Cr_fill_80 (by decide) (fun c_80 => ?_) (fun c_80 => ?_)
                · skip
                  replace c_80 := sw_b0.mp c_80
                  refine lv_iinc (v := j + 1) (lv' := [(5, .int (j + 1)), (0, .ref k), (1, .ref p), (2, .ref o), (3, .int y), (4, .int z)]) hx hb d_Cr_fill_94 hl (k := 5) rfl rfl (by decide) rfl (fun ls hl => ?_)
                  refine lv_goto (tgt := 41) hx hb d_Cr_fill_97 (by decide) ?_
                  exact ih_41 (a + 1) (j + 1) f5 _ _ _ (by rw [hj]; exact nI_1 a) (hjn) (by rw [hji, sw_bdec] at c_80; rw [c_55] at hf5; first | exact sw_fst_no hf5 c_80 c_55 | (rw [hji]; exact sw_fst_yes hf5 c_80)) (by omega) (hP.sub [7, 0, 8, 1, 9, 2, 3, 10, 11, 4, 5, 12, 13, 6] rfl) (hD.sub [7, 0, 8, 1, 9, 2, 3, 10, 11, 4, 5, 12, 13, 6] (by decide) rfl) hS (lv_sub hl [1, 2, 3, 4, 5, 0] rfl)
                · skip
                  replace c_80 := sw_bn.mp c_80
                  refine lv_aload_n hx hb d_Cr_fill_83 rfl (lv_at hl 0 rfl) ?_
                  refine lv_aload_n hx hb d_Cr_fill_84 rfl (lv_at hl 0 rfl) ?_
                  refine va_get (D := D) (ci := 4) (v := .ref k1) (C := R_Cr) (T := F_Cr) (N := 5) hx hb hw ku_Cr hown hK hP 7 rfl rfl 0 (by decide) (hw _ kw_053bb905) (fun _ h9 => h9) rfl d_Cr_fill_85 ?_
                  refine lv_iload hx hb d_Cr_fill_88 (lv_at hl 5 rfl) ?_
                  refine va_iald hx hb hK hP 0 0 rfl rfl (by assumption) d_Cr_fill_90 ?_
                  refine va_put (D := D) (ci := 4) (v := .int (f1 j.toNatClampNeg)) (ty := t_Cr 4) (C := R_Cr) (T := F_Cr) (N := 5) hx hb hw ku_Cr t_Cr t_Cr_ok n_Cr hown hK hP hD hS 7 rfl rfl 4 (by decide) (hw _ kw_767774d4) (fun _ h9 => h9) rfl (t_Cr_ok 4 (by decide)) rfl rfl (Nat.le_of_ble_eq_true rfl) d_Cr_fill_91 (fun H locs hP hD hS => ?_)
                  replace hP : va_P D sw_cl [(k1, .inl (cI, 64, .inl f1)), (k3, .inl (cI, 64, .inl f3)), (pX, .inl (cI, 64, .inl vx)), (pY, .inl (cI, 64, .inl vy)), (pA, .inl (cI, 64, .inl fa)), (pB, .inl (cI, 64, .inl tb)), (o, .inr (3, [.int ox, .int oy, .int oa, .int os])), (k, .inr (4, [.ref k1, .ref k2, .ref k3, .int n1, .int (f1 j.toNatClampNeg)])), (k2, .inl (cI, 64, .inl f2)), (p, .inr (1, [.ref pX, .ref pY, .ref pF, .ref pC, .ref pA, .ref pB, .ref pR, .ref pK, .int nv, .int ns, .int nw])), (pF, .inl (cI, 16, .inl fl)), (pC, .inl (cI, 16, .inl ce)), (pR, .inl (cI, 64, .inl fr)), (pK, .inl (cI, 64, .inl bk))] H := hP
                  replace hD : va_D A [(k1, .inl (cI, 64, .inl f1)), (k3, .inl (cI, 64, .inl f3)), (pX, .inl (cI, 64, .inl vx)), (pY, .inl (cI, 64, .inl vy)), (pA, .inl (cI, 64, .inl fa)), (pB, .inl (cI, 64, .inl tb)), (o, .inr (3, [.int ox, .int oy, .int oa, .int os])), (k, .inr (4, [.ref k1, .ref k2, .ref k3, .int n1, .int (f1 j.toNatClampNeg)])), (k2, .inl (cI, 64, .inl f2)), (p, .inr (1, [.ref pX, .ref pY, .ref pF, .ref pC, .ref pA, .ref pB, .ref pR, .ref pK, .int nv, .int ns, .int nw])), (pF, .inl (cI, 16, .inl fl)), (pC, .inl (cI, 16, .inl ce)), (pR, .inl (cI, 64, .inl fr)), (pK, .inl (cI, 64, .inl bk))] := hD
                  refine lv_iinc (v := j + 1) (lv' := [(5, .int (j + 1)), (0, .ref k), (1, .ref p), (2, .ref o), (3, .int y), (4, .int z)]) hx hb d_Cr_fill_94 hl (k := 5) rfl rfl (by decide) rfl (fun ls hl => ?_)
                  refine lv_goto (tgt := 41) hx hb d_Cr_fill_97 (by decide) ?_
                  exact ih_41 (a + 1) (j + 1) (f1 j.toNatClampNeg) _ _ _ (by rw [hj]; exact nI_1 a) (hjn) (by rw [hji, sw_bdec] at c_80; rw [c_55] at hf5; first | exact sw_fst_no hf5 c_80 c_55 | (rw [hji]; exact sw_fst_yes hf5 c_80)) (by omega) (hP.sub [7, 0, 8, 1, 9, 2, 3, 10, 11, 4, 5, 12, 13, 6] rfl) (hD.sub [7, 0, 8, 1, 9, 2, 3, 10, 11, 4, 5, 12, 13, 6] (by decide) rfl) hS (lv_sub hl [1, 2, 3, 4, 5, 0] rfl)
        exact lp_41 _ 0 0 (-1) _ _ _ (nI_0.symm) (Nat.zero_le _) (rfl) (Nat.lt_succ_self _) (hP.sub [0, 1, 2, 3, 4, 5, 6, 7, 8, 9, 10, 11, 12, 13] rfl) (hD.sub [0, 1, 2, 3, 4, 5, 6, 7, 8, 9, 10, 11, 12, 13] (by decide) rfl) hS (lv_sub hl [1, 2, 3, 4, 5, 0] rfl)
      · skip
        have hkn : q < nw.toNatClampNeg := sw_nle hn (by decide) hi hq c_9
        have hki : i.toNatClampNeg = q := by rw [hi]; exact nI_clamp (by omega)
        have hin1 : vp_in i 64 := by rw [hi]; exact vp_in_nI (by omega) (by omega)
        have hj1 := hv i.toNatClampNeg (by omega)
        refine lv_aload_n hx hb d_Cr_fill_12 rfl (lv_at hl 0 rfl) ?_
        refine lv_aload_n hx hb d_Cr_fill_13 rfl (lv_at hl 1 rfl) ?_
        refine lv_iload hx hb d_Cr_fill_14 (lv_at hl 5 rfl) ?_
        refine lv_aload_n hx hb d_Cr_fill_16 rfl (lv_at hl 2 rfl) ?_
        refine lv_iload_n hx hb d_Cr_fill_17 rfl (lv_at hl 3 rfl) ?_
        refine lv_iload hx hb d_Cr_fill_18 (lv_at hl 4 rfl) ?_
        refine sw_ki0 (wr := [(k1, .inl (cI, 64, .inl f1)), (pF, .inl (cI, 16, .inl fl)), (pC, .inl (cI, 16, .inl ce)), (pR, .inl (cI, 64, .inl fr)), (pK, .inl (cI, 64, .inl bk))]) (va_runV (As := [.ref p, .int i, .ref o, .int y, .int z]) (rest := []) ⟨hx, hb, hml, hown, hw⟩ (c_Cr_isCrossed l D cI cL tq _ k p i o y z k1 k2 k3 n1 (-1) f2 f3 pX pY pF pC pA pB pR pK nv ns nw vx vy fa tb ox oy oa os (hin1) (hj1.1) (hj1.2.1)) (cwV 5 hw (sw_gV kw_8b08a6ae kw_97d124a7 kw_c621ba1a kw_7f626125 kc_Cr_isCrossed) rfl rfl rfl ⟨rfl, yd_Cr_isCrossed⟩ ⟨Nat.le_of_ble_eq_true rfl, Nat.le_of_ble_eq_true rfl⟩) (sw_preV hK hP hD hS hA hG [0, 2, 3, 4, 5, 6, 9, 10, 13] rfl (by decide) 4 0 rfl rfl) rfl rfl hl.1 rfl (lv_room (Nat.le_of_ble_eq_true rfl)) d_Cr_fill_20 ⟨Nat.le_of_ble_eq_true rfl, Nat.le_of_ble_eq_true rfl⟩) hP hD hS hA [0, 2, 3, 4, 5, 6, 9, 10, 13] [1, 7, 8, 11, 12] rfl rfl (by decide) (by decide) (fun r_20 u_20 H locs hp_20 hP hD hS => ?_)
        obtain ⟨pp2_20, qq2_20⟩ := u_20
        try dsimp only at hp_20
        obtain ⟨rfl, rfl, rfl⟩ := hp_20
        replace hP : va_P D sw_cl [(k1, .inl (cI, 64, .inl f1)), (pF, .inl (cI, 16, .inl fl)), (pC, .inl (cI, 16, .inl ce)), (pR, .inl (cI, 64, .inl fr)), (pK, .inl (cI, 64, .inl bk)), (k, .inr (4, [.ref k1, .ref k2, .ref k3, .int n1, .int (-1)])), (k2, .inl (cI, 64, .inl ((sw_isc vx vy fa tb ox oy y z f2 f3 i.toNatClampNeg).2.1))), (k3, .inl (cI, 64, .inl ((sw_isc vx vy fa tb ox oy y z f2 f3 i.toNatClampNeg).2.2))), (p, .inr (1, [.ref pX, .ref pY, .ref pF, .ref pC, .ref pA, .ref pB, .ref pR, .ref pK, .int nv, .int ns, .int nw])), (pX, .inl (cI, 64, .inl vx)), (pY, .inl (cI, 64, .inl vy)), (pA, .inl (cI, 64, .inl fa)), (pB, .inl (cI, 64, .inl tb)), (o, .inr (3, [.int ox, .int oy, .int oa, .int os]))] H := hP
        replace hD : va_D A [(k1, .inl (cI, 64, .inl f1)), (pF, .inl (cI, 16, .inl fl)), (pC, .inl (cI, 16, .inl ce)), (pR, .inl (cI, 64, .inl fr)), (pK, .inl (cI, 64, .inl bk)), (k, .inr (4, [.ref k1, .ref k2, .ref k3, .int n1, .int (-1)])), (k2, .inl (cI, 64, .inl ((sw_isc vx vy fa tb ox oy y z f2 f3 i.toNatClampNeg).2.1))), (k3, .inl (cI, 64, .inl ((sw_isc vx vy fa tb ox oy y z f2 f3 i.toNatClampNeg).2.2))), (p, .inr (1, [.ref pX, .ref pY, .ref pF, .ref pC, .ref pA, .ref pB, .ref pR, .ref pK, .int nv, .int ns, .int nw])), (pX, .inl (cI, 64, .inl vx)), (pY, .inl (cI, 64, .inl vy)), (pA, .inl (cI, 64, .inl fa)), (pB, .inl (cI, 64, .inl tb)), (o, .inr (3, [.int ox, .int oy, .int oa, .int os]))] := hD
        refine lv_if_eq (tgt := 32) hx hb d_Cr_fill_23 (by decide) (fun c_23 => ?_) (fun c_23 => ?_)
        · skip
          refine lv_iinc (v := i + 1) (lv' := [(5, .int (i + 1)), (0, .ref k), (1, .ref p), (2, .ref o), (3, .int y), (4, .int z)]) hx hb d_Cr_fill_32 hl (k := 5) rfl rfl (by decide) rfl (fun ls hl => ?_)
          refine lv_goto (tgt := 3) hx hb d_Cr_fill_35 (by decide) ?_
          exact ih_3 (q + 1) (i + 1) n1 f1 ((sw_isc vx vy fa tb ox oy y z f2 f3 i.toNatClampNeg).2.1) ((sw_isc vx vy fa tb ox oy y z f2 f3 i.toNatClampNeg).2.2) _ _ _ (by rw [hi]; exact nI_1 q) (hkn) (by rw [hki] at c_23 ⊢; first | exact sw_fs1_no hs c_23 | (rw [hp_29, hi, nI_clamp (by omega)]; exact sw_fs1_yes hs c_23)) (by first | exact sw_od_no ho | (rw [hp_29, hki, hi]; exact sw_od_yes ho (by omega))) (by omega) (hP.sub [5, 0, 6, 7, 8, 9, 10, 1, 2, 11, 12, 3, 4, 13] rfl) (hD.sub [5, 0, 6, 7, 8, 9, 10, 1, 2, 11, 12, 3, 4, 13] (by decide) rfl) hS (lv_sub hl [1, 2, 3, 4, 5, 0] rfl)
        · skip
          refine lv_aload_n hx hb d_Cr_fill_26 rfl (lv_at hl 0 rfl) ?_
          refine lv_iload hx hb d_Cr_fill_27 (lv_at hl 5 rfl) ?_
          refine sw_kv0 (wr := [(pF, .inl (cI, 16, .inl fl)), (pC, .inl (cI, 16, .inl ce)), (pR, .inl (cI, 64, .inl fr)), (pK, .inl (cI, 64, .inl bk)), (p, .inr (1, [.ref pX, .ref pY, .ref pF, .ref pC, .ref pA, .ref pB, .ref pR, .ref pK, .int nv, .int ns, .int nw])), (pX, .inl (cI, 64, .inl vx)), (pY, .inl (cI, 64, .inl vy)), (pA, .inl (cI, 64, .inl fa)), (pB, .inl (cI, 64, .inl tb)), (o, .inr (3, [.int ox, .int oy, .int oa, .int os]))]) (va_runV (As := [.int i]) (rest := []) ⟨hx, hb, hml, hown, hw⟩ (c_Cr_insert l D cI cL tq _ k i k1 k2 k3 n1 (-1) f1 ((sw_isc vx vy fa tb ox oy y z f2 f3 i.toNatClampNeg).2.1) ((sw_isc vx vy fa tb ox oy y z f2 f3 i.toNatClampNeg).2.2) (sw_ok_mono ho.1 (by omega)) (hin1) (fun j hj => sw_od_in ho rfl hj (by omega))) (cwV 1 hw (sw_gV kw_e298ac0b kw_855c9ef0 kw_3e4c02f2 kw_7f626125 kc_Cr_insert) rfl rfl rfl ⟨rfl, yd_Cr_insert⟩ ⟨Nat.le_of_ble_eq_true rfl, Nat.le_of_ble_eq_true rfl⟩) (sw_preV hK hP hD hS hA hG [5, 0, 6, 7] rfl (by decide) 4 5 rfl rfl) rfl rfl hl.1 rfl (lv_room (Nat.le_of_ble_eq_true rfl)) d_Cr_fill_29 ⟨Nat.le_of_ble_eq_true rfl, Nat.le_of_ble_eq_true rfl⟩) hP hD hS hA [5, 0, 6, 7] [1, 2, 3, 4, 8, 9, 10, 11, 12, 13] rfl rfl (by decide) (by decide) (fun od2_29 H locs hp_29 hP hD hS => ?_)
          replace hP : va_P D sw_cl [(pF, .inl (cI, 16, .inl fl)), (pC, .inl (cI, 16, .inl ce)), (pR, .inl (cI, 64, .inl fr)), (pK, .inl (cI, 64, .inl bk)), (p, .inr (1, [.ref pX, .ref pY, .ref pF, .ref pC, .ref pA, .ref pB, .ref pR, .ref pK, .int nv, .int ns, .int nw])), (pX, .inl (cI, 64, .inl vx)), (pY, .inl (cI, 64, .inl vy)), (pA, .inl (cI, 64, .inl fa)), (pB, .inl (cI, 64, .inl tb)), (o, .inr (3, [.int ox, .int oy, .int oa, .int os])), (k, .inr (4, [.ref k1, .ref k2, .ref k3, .int (n1 + 1), .int (-1)])), (k1, .inl (cI, 64, .inl od2_29)), (k2, .inl (cI, 64, .inl ((sw_isc vx vy fa tb ox oy y z f2 f3 i.toNatClampNeg).2.1))), (k3, .inl (cI, 64, .inl ((sw_isc vx vy fa tb ox oy y z f2 f3 i.toNatClampNeg).2.2)))] H := hP
          replace hD : va_D A [(pF, .inl (cI, 16, .inl fl)), (pC, .inl (cI, 16, .inl ce)), (pR, .inl (cI, 64, .inl fr)), (pK, .inl (cI, 64, .inl bk)), (p, .inr (1, [.ref pX, .ref pY, .ref pF, .ref pC, .ref pA, .ref pB, .ref pR, .ref pK, .int nv, .int ns, .int nw])), (pX, .inl (cI, 64, .inl vx)), (pY, .inl (cI, 64, .inl vy)), (pA, .inl (cI, 64, .inl fa)), (pB, .inl (cI, 64, .inl tb)), (o, .inr (3, [.int ox, .int oy, .int oa, .int os])), (k, .inr (4, [.ref k1, .ref k2, .ref k3, .int (n1 + 1), .int (-1)])), (k1, .inl (cI, 64, .inl od2_29)), (k2, .inl (cI, 64, .inl ((sw_isc vx vy fa tb ox oy y z f2 f3 i.toNatClampNeg).2.1))), (k3, .inl (cI, 64, .inl ((sw_isc vx vy fa tb ox oy y z f2 f3 i.toNatClampNeg).2.2)))] := hD
          try dsimp only at hp_29
          refine lv_iinc (v := i + 1) (lv' := [(5, .int (i + 1)), (0, .ref k), (1, .ref p), (2, .ref o), (3, .int y), (4, .int z)]) hx hb d_Cr_fill_32 hl (k := 5) rfl rfl (by decide) rfl (fun ls hl => ?_)
          refine lv_goto (tgt := 3) hx hb d_Cr_fill_35 (by decide) ?_
          exact ih_3 (q + 1) (i + 1) (n1 + 1) od2_29 ((sw_isc vx vy fa tb ox oy y z f2 f3 i.toNatClampNeg).2.1) ((sw_isc vx vy fa tb ox oy y z f2 f3 i.toNatClampNeg).2.2) _ _ _ (by rw [hi]; exact nI_1 q) (hkn) (by rw [hki] at c_23 ⊢; first | exact sw_fs1_no hs c_23 | (rw [hp_29, hi, nI_clamp (by omega)]; exact sw_fs1_yes hs c_23)) (by first | exact sw_od_no ho | (rw [hp_29, hki, hi]; exact sw_od_yes ho (by omega))) (by omega) (hP.sub [10, 11, 12, 13, 4, 5, 6, 0, 1, 7, 8, 2, 3, 9] rfl) (hD.sub [10, 11, 12, 13, 4, 5, 6, 0, 1, 7, 8, 2, 3, 9] (by decide) rfl) hS (lv_sub hl [1, 2, 3, 4, 5, 0] rfl)
  exact lp_3 _ 0 0 0 od pp qq _ _ _ (nI_0.symm) (Nat.zero_le _) (rfl) (sw_od_0) (Nat.lt_succ_self _) (hP.sub [0, 1, 2, 3, 4, 5, 6, 7, 8, 9, 10, 11, 12, 13] rfl) (hD.sub [0, 1, 2, 3, 4, 5, 6, 7, 8, 9, 10, 11, 12, 13] (by decide) rfl) hS (lv_sub hl [1, 2, 3, 4, 5, 0] rfl)
end
section
abbrev rm_St_init : Room := { frames := 1, cells := 0, slots := 0, locals := 12 }
abbrev q_St_init (D : va_G) (cI cL : ClassId) (A : Nat → Prop) (o : Nat) (ox : Int32) (oy : Int32) (oa : Int32) (os : Int32) : Array Value → State → Outcome → State → Prop := va_Qv (S := Unit) (fun (_ : Unit) => True) (sw_R D A (fun (_ : Unit) => [(o, .inr (3, [.int ox, .int oy, .int oa, .int os]))])) A
set_option maxHeartbeats 200000 in
set_option maxRecDepth 100000 in
theorem c_St_init (l : Launch) (D : va_G) (cI cL : ClassId) (tq sz : Nat) (o : Nat) (ox : Int32) (oy : Int32) (oa : Int32) (os : Int32) : Met l y_St_init w_St_init rm_St_init (va_Pc [.ref o] (sw_B D cI cL tq sz [(o, .inr (3, [.int ox, .int oy, .int oa, .int os]))])) (q_St_init D cI cL (va_A [(o, .inr (3, [.int ox, .int oy, .int oa, .int os]))] sz) o ox oy oa os) 0 0 (va_A [(o, .inr (3, [.int ox, .int oy, .int oa, .int os]))] sz) := by
  refine Met.ofW (cc := b_St_init) (maxL := 1) (ret := none) (by decide) rfl ?_
  intro mp me s mm args below meth mk s₁ B hml hv
  obtain ⟨rfl, hsz, hP, hK, hD0, hG⟩ := hv
  have hx := B.exec
  have hb := B.bytes
  have hr := B.returns
  have hts := atoms_spec (ws := w_St_init) B.pre
  have hw : ∀ w ∈ sw_words, w.before _ s = true := fun w h => hts w (List.mem_cons_of_mem _ h)
  have hown : s.vm.findClass R_St = some mm.cls := findClass_of_methodNamed B.named
  have hlocks := B.notSynchronized
  have hin : meth.name = "<init>" := (name_of_methodNamed B.named B.method).1
  subst hsz
  have hD := hD0.self (sz := s.heap.size)
  generalize hAe : va_A [(o, .inr (3, [.int ox, .int oy, .int oa, .int os]))] s.heap.size = A at hD hG ⊢
  have hA : ∀ q : Nat, s.heap.size ≤ q → A q := fun q h => by rw [← hAe]; exact Or.inr h
  have hS : va_S A s.heap s.heap [] := va_S.rf
  have hl := lv_entry ([.ref o]) (n := 1) (Nat.le_of_ble_eq_true rfl)
  rw [lg_entry_eq]
  generalize (lg_sl ([.ref o]) ++ List.replicate (1 - (lg_sl ([.ref o])).length) Slot.unset).toArray = ls at hl ⊢
  have hl : lv_has ls 1 [(0, .ref o)] := hl
  refine lv_aload_n hx hb d_St_init_0 rfl (lv_at hl 0 rfl) ?_
  refine W.objInit hx hb hown (hw _ kw_2f7f9c44) (hw _ kw_004f8c6f) (hw _ kc_objectInit) rfl (by rw [hml]; exact hl.1) rfl d_St_init_1 (Nat.le_of_ble_eq_true rfl) (Nat.le_of_ble_eq_true rfl) ?_
  refine W.eq (g2 := F0 mm 4 ls []) rfl ?_
  have hP9 := hP.sub (ws' := [(o, .inr (3, [.int ox, .int oy, .int oa, .int os]))]) [0] rfl
  have hD9 := hD.sub (ws' := [(o, .inr (3, [.int ox, .int oy, .int oa, .int os]))]) [0] (by decide) rfl
  exact W.vret hx hb hr (fun T9 hT9 hW9 => ⟨⟨(), rfl, by first | trivial | (simp []), by rw [hT9]; exact hP9, hD9⟩, hS.F hT9⟩) hS.2.2 d_St_init_4

abbrev rm_Ta_init : Room := { frames := 1, cells := 3, slots := 768, locals := 12 }
abbrev q_Ta_init (D : va_G) (cI cL : ClassId) (A : Nat → Prop) (t : Nat) : Array Value → State → Outcome → State → Prop := va_Qv (S := Nat × Nat × Nat) (fun (u : Nat × Nat × Nat) => match u with | (t1, t2, t3) => True) (sw_R D A (fun (u : Nat × Nat × Nat) => match u with | (t1, t2, t3) => [(t, .inr (2, [.ref t1, .ref t2, .ref t3, .int 0])), (t1, .inl (cI, 256, .inl (fun _ => 0))), (t2, .inl (cI, 256, .inl (fun _ => 0))), (t3, .inl (cI, 256, .inl (fun _ => 0)))])) A
set_option maxHeartbeats 200000 in
set_option maxRecDepth 100000 in
theorem c_Ta_init (l : Launch) (D : va_G) (cI cL : ClassId) (tq sz : Nat) (t : Nat) : Met l y_Ta_init w_Ta_init rm_Ta_init (va_Pc [.ref t] (sw_B D cI cL tq sz [(t, .inr (2, [.null, .null, .null, .int 0]))])) (q_Ta_init D cI cL (va_A [(t, .inr (2, [.null, .null, .null, .int 0]))] sz) t) 3 768 (va_A [(t, .inr (2, [.null, .null, .null, .int 0]))] sz) := by
  refine Met.ofW (cc := b_Ta_init) (maxL := 1) (ret := none) (by decide) rfl ?_
  intro mp me s mm args below meth mk s₁ B hml hv
  obtain ⟨rfl, hsz, hP, hK, hD0, hG⟩ := hv
  have hx := B.exec
  have hb := B.bytes
  have hr := B.returns
  have hts := atoms_spec (ws := w_Ta_init) B.pre
  have hw : ∀ w ∈ sw_words, w.before _ s = true := fun w h => hts w (List.mem_cons_of_mem _ h)
  have hown : s.vm.findClass R_Ta = some mm.cls := findClass_of_methodNamed B.named
  have hlocks := B.notSynchronized
  have hin : meth.name = "<init>" := (name_of_methodNamed B.named B.method).1
  subst hsz
  have hD := hD0.self (sz := s.heap.size)
  generalize hAe : va_A [(t, .inr (2, [.null, .null, .null, .int 0]))] s.heap.size = A at hD hG ⊢
  have hA : ∀ q : Nat, s.heap.size ≤ q → A q := fun q h => by rw [← hAe]; exact Or.inr h
  have hS : va_S A s.heap s.heap [] := va_S.rf
  have hl := lv_entry ([.ref t]) (n := 1) (Nat.le_of_ble_eq_true rfl)
  rw [lg_entry_eq]
  generalize (lg_sl ([.ref t]) ++ List.replicate (1 - (lg_sl ([.ref t])).length) Slot.unset).toArray = ls at hl ⊢
  have hl : lv_has ls 1 [(0, .ref t)] := hl
  refine lv_aload_n hx hb d_Ta_init_0 rfl (lv_at hl 0 rfl) ?_
  refine W.objInit hx hb hown (hw _ kw_ba545fc0) (hw _ kw_004f8c6f) (hw _ kc_objectInit) rfl (by rw [hml]; exact hl.1) rfl d_Ta_init_1 (Nat.le_of_ble_eq_true rfl) (Nat.le_of_ble_eq_true rfl) ?_
  refine W.eq (g2 := F0 mm 4 ls []) rfl ?_
  refine lv_aload_n hx hb d_Ta_init_4 rfl (lv_at hl 0 rfl) ?_
  refine lv_sipush (v := 256) hx hb d_Ta_init_5 (by decide) ?_
  have hq1 : 0 + 1 ≤ 3 := by decide
  have hq2 : 0 + 256 ≤ 768 := by decide
  refine va_newa (atype := .int) (a0 := (256, .inl (fun _ => 0))) (N' := 256) hx hb (hw _ kw_2e6385fb) rfl hK hP hD hS hA (fun _ => rfl) (by decide) (by decide) (by decide) hq1 hq2 d_Ta_init_8 (fun q8 cA H hKn hP hD hS => ?_)
  obtain rfl : cI = cA := sw_uni hKn
  replace hP : va_P D sw_cl [(t, .inr (2, [.null, .null, .null, .int 0])), (q8, .inl (cI, 256, .inl (fun _ => 0)))] H := hP
  replace hD : va_D A [(t, .inr (2, [.null, .null, .null, .int 0])), (q8, .inl (cI, 256, .inl (fun _ => 0)))] := hD
  refine W.widen (k := 1) (n := 256) (by decide) (by decide) ?_
  refine va_putF (D := D) (ci := 2) (v := .ref q8) (ty := t_Ta 0) (C := R_Ta) (T := F_Ta) (N := 4) hx hb hw ku_Ta t_Ta t_Ta_ok n_Ta hown hK hP hD hS 0 rfl rfl 0 (by decide) (hw _ kw_a5894e3b) (fun _ h9 => h9) rfl hin rfl (t_Ta_ok 0 (by decide)) rfl rfl (Nat.le_of_ble_eq_true rfl) d_Ta_init_10 (fun H locs hP hD hS => ?_)
  replace hP : va_P D sw_cl [(t, .inr (2, [.ref q8, .null, .null, .int 0])), (q8, .inl (cI, 256, .inl (fun _ => 0)))] H := hP
  replace hD : va_D A [(t, .inr (2, [.ref q8, .null, .null, .int 0])), (q8, .inl (cI, 256, .inl (fun _ => 0)))] := hD
  refine lv_aload_n hx hb d_Ta_init_13 rfl (lv_at hl 0 rfl) ?_
  refine lv_sipush (v := 256) hx hb d_Ta_init_14 (by decide) ?_
  have hq1 : 1 + 1 ≤ 3 := by decide
  have hq2 : 256 + 256 ≤ 768 := by decide
  refine va_newa (atype := .int) (a0 := (256, .inl (fun _ => 0))) (N' := 256) hx hb (hw _ kw_2e6385fb) rfl hK hP hD hS hA (fun _ => rfl) (by decide) (by decide) (by decide) hq1 hq2 d_Ta_init_17 (fun q17 cA H hKn hP hD hS => ?_)
  obtain rfl : cI = cA := sw_uni hKn
  replace hP : va_P D sw_cl [(t, .inr (2, [.ref q8, .null, .null, .int 0])), (q8, .inl (cI, 256, .inl (fun _ => 0))), (q17, .inl (cI, 256, .inl (fun _ => 0)))] H := hP
  replace hD : va_D A [(t, .inr (2, [.ref q8, .null, .null, .int 0])), (q8, .inl (cI, 256, .inl (fun _ => 0))), (q17, .inl (cI, 256, .inl (fun _ => 0)))] := hD
  refine W.widen (k := 2) (n := 512) (by decide) (by decide) ?_
  refine va_putF (D := D) (ci := 2) (v := .ref q17) (ty := t_Ta 1) (C := R_Ta) (T := F_Ta) (N := 4) hx hb hw ku_Ta t_Ta t_Ta_ok n_Ta hown hK hP hD hS 0 rfl rfl 1 (by decide) (hw _ kw_0dba980b) (fun _ h9 => h9) rfl hin rfl (t_Ta_ok 1 (by decide)) rfl rfl (Nat.le_of_ble_eq_true rfl) d_Ta_init_19 (fun H locs hP hD hS => ?_)
  replace hP : va_P D sw_cl [(t, .inr (2, [.ref q8, .ref q17, .null, .int 0])), (q8, .inl (cI, 256, .inl (fun _ => 0))), (q17, .inl (cI, 256, .inl (fun _ => 0)))] H := hP
  replace hD : va_D A [(t, .inr (2, [.ref q8, .ref q17, .null, .int 0])), (q8, .inl (cI, 256, .inl (fun _ => 0))), (q17, .inl (cI, 256, .inl (fun _ => 0)))] := hD
  refine lv_aload_n hx hb d_Ta_init_22 rfl (lv_at hl 0 rfl) ?_
  refine lv_sipush (v := 256) hx hb d_Ta_init_23 (by decide) ?_
  have hq1 : 2 + 1 ≤ 3 := by decide
  have hq2 : 512 + 256 ≤ 768 := by decide
  refine va_newa (atype := .int) (a0 := (256, .inl (fun _ => 0))) (N' := 256) hx hb (hw _ kw_2e6385fb) rfl hK hP hD hS hA (fun _ => rfl) (by decide) (by decide) (by decide) hq1 hq2 d_Ta_init_26 (fun q26 cA H hKn hP hD hS => ?_)
  obtain rfl : cI = cA := sw_uni hKn
  replace hP : va_P D sw_cl [(t, .inr (2, [.ref q8, .ref q17, .null, .int 0])), (q8, .inl (cI, 256, .inl (fun _ => 0))), (q17, .inl (cI, 256, .inl (fun _ => 0))), (q26, .inl (cI, 256, .inl (fun _ => 0)))] H := hP
  replace hD : va_D A [(t, .inr (2, [.ref q8, .ref q17, .null, .int 0])), (q8, .inl (cI, 256, .inl (fun _ => 0))), (q17, .inl (cI, 256, .inl (fun _ => 0))), (q26, .inl (cI, 256, .inl (fun _ => 0)))] := hD
  refine W.widen (k := 3) (n := 768) (by decide) (by decide) ?_
  refine va_putF (D := D) (ci := 2) (v := .ref q26) (ty := t_Ta 2) (C := R_Ta) (T := F_Ta) (N := 4) hx hb hw ku_Ta t_Ta t_Ta_ok n_Ta hown hK hP hD hS 0 rfl rfl 2 (by decide) (hw _ kw_96c33365) (fun _ h9 => h9) rfl hin rfl (t_Ta_ok 2 (by decide)) rfl rfl (Nat.le_of_ble_eq_true rfl) d_Ta_init_28 (fun H locs hP hD hS => ?_)
  replace hP : va_P D sw_cl [(t, .inr (2, [.ref q8, .ref q17, .ref q26, .int 0])), (q8, .inl (cI, 256, .inl (fun _ => 0))), (q17, .inl (cI, 256, .inl (fun _ => 0))), (q26, .inl (cI, 256, .inl (fun _ => 0)))] H := hP
  replace hD : va_D A [(t, .inr (2, [.ref q8, .ref q17, .ref q26, .int 0])), (q8, .inl (cI, 256, .inl (fun _ => 0))), (q17, .inl (cI, 256, .inl (fun _ => 0))), (q26, .inl (cI, 256, .inl (fun _ => 0)))] := hD
  have hP9 := hP.sub (ws' := [(t, .inr (2, [.ref q8, .ref q17, .ref q26, .int 0])), (q8, .inl (cI, 256, .inl (fun _ => 0))), (q17, .inl (cI, 256, .inl (fun _ => 0))), (q26, .inl (cI, 256, .inl (fun _ => 0)))]) [0, 1, 2, 3] rfl
  have hD9 := hD.sub (ws' := [(t, .inr (2, [.ref q8, .ref q17, .ref q26, .int 0])), (q8, .inl (cI, 256, .inl (fun _ => 0))), (q17, .inl (cI, 256, .inl (fun _ => 0))), (q26, .inl (cI, 256, .inl (fun _ => 0)))]) [0, 1, 2, 3] (by decide) rfl
  exact W.vret hx hb hr (fun T9 hT9 hW9 => ⟨⟨(q8, q17, q26), rfl, by first | trivial | (simp []), by rw [hT9]; exact hP9, hD9⟩, hS.F hT9⟩) hS.2.2 d_Ta_init_31

abbrev rm_Cr_init : Room := { frames := 1, cells := 3, slots := 192, locals := 12 }
abbrev q_Cr_init (D : va_G) (cI cL : ClassId) (A : Nat → Prop) (k : Nat) : Array Value → State → Outcome → State → Prop := va_Qv (S := Nat × Nat × Nat) (fun (u : Nat × Nat × Nat) => match u with | (k1, k2, k3) => True) (sw_R D A (fun (u : Nat × Nat × Nat) => match u with | (k1, k2, k3) => [(k, .inr (4, [.ref k1, .ref k2, .ref k3, .int 0, .int (-1)])), (k1, .inl (cI, 64, .inl (fun _ => 0))), (k2, .inl (cI, 64, .inl (fun _ => 0))), (k3, .inl (cI, 64, .inl (fun _ => 0)))])) A
set_option maxHeartbeats 200000 in
set_option maxRecDepth 100000 in
theorem c_Cr_init (l : Launch) (D : va_G) (cI cL : ClassId) (tq sz : Nat) (k : Nat) : Met l y_Cr_init w_Cr_init rm_Cr_init (va_Pc [.ref k] (sw_B D cI cL tq sz [(k, .inr (4, [.null, .null, .null, .int 0, .int 0]))])) (q_Cr_init D cI cL (va_A [(k, .inr (4, [.null, .null, .null, .int 0, .int 0]))] sz) k) 3 192 (va_A [(k, .inr (4, [.null, .null, .null, .int 0, .int 0]))] sz) := by
  refine Met.ofW (cc := b_Cr_init) (maxL := 1) (ret := none) (by decide) rfl ?_
  intro mp me s mm args below meth mk s₁ B hml hv
  obtain ⟨rfl, hsz, hP, hK, hD0, hG⟩ := hv
  have hx := B.exec
  have hb := B.bytes
  have hr := B.returns
  have hts := atoms_spec (ws := w_Cr_init) B.pre
  have hw : ∀ w ∈ sw_words, w.before _ s = true := fun w h => hts w (List.mem_cons_of_mem _ h)
  have hown : s.vm.findClass R_Cr = some mm.cls := findClass_of_methodNamed B.named
  have hlocks := B.notSynchronized
  have hin : meth.name = "<init>" := (name_of_methodNamed B.named B.method).1
  subst hsz
  have hD := hD0.self (sz := s.heap.size)
  generalize hAe : va_A [(k, .inr (4, [.null, .null, .null, .int 0, .int 0]))] s.heap.size = A at hD hG ⊢
  have hA : ∀ q : Nat, s.heap.size ≤ q → A q := fun q h => by rw [← hAe]; exact Or.inr h
  have hS : va_S A s.heap s.heap [] := va_S.rf
  have hl := lv_entry ([.ref k]) (n := 1) (Nat.le_of_ble_eq_true rfl)
  rw [lg_entry_eq]
  generalize (lg_sl ([.ref k]) ++ List.replicate (1 - (lg_sl ([.ref k])).length) Slot.unset).toArray = ls at hl ⊢
  have hl : lv_has ls 1 [(0, .ref k)] := hl
  refine lv_aload_n hx hb d_Cr_init_0 rfl (lv_at hl 0 rfl) ?_
  refine W.objInit hx hb hown (hw _ kw_7fe4d622) (hw _ kw_004f8c6f) (hw _ kc_objectInit) rfl (by rw [hml]; exact hl.1) rfl d_Cr_init_1 (Nat.le_of_ble_eq_true rfl) (Nat.le_of_ble_eq_true rfl) ?_
  refine W.eq (g2 := F0 mm 4 ls []) rfl ?_
  refine lv_aload_n hx hb d_Cr_init_4 rfl (lv_at hl 0 rfl) ?_
  refine lv_bipush (v := 64) hx hb d_Cr_init_5 (by decide) ?_
  have hq1 : 0 + 1 ≤ 3 := by decide
  have hq2 : 0 + 64 ≤ 192 := by decide
  refine va_newa (atype := .int) (a0 := (64, .inl (fun _ => 0))) (N' := 64) hx hb (hw _ kw_2e6385fb) rfl hK hP hD hS hA (fun _ => rfl) (by decide) (by decide) (by decide) hq1 hq2 d_Cr_init_7 (fun q7 cA H hKn hP hD hS => ?_)
  obtain rfl : cI = cA := sw_uni hKn
  replace hP : va_P D sw_cl [(k, .inr (4, [.null, .null, .null, .int 0, .int 0])), (q7, .inl (cI, 64, .inl (fun _ => 0)))] H := hP
  replace hD : va_D A [(k, .inr (4, [.null, .null, .null, .int 0, .int 0])), (q7, .inl (cI, 64, .inl (fun _ => 0)))] := hD
  refine W.widen (k := 1) (n := 64) (by decide) (by decide) ?_
  refine va_putF (D := D) (ci := 4) (v := .ref q7) (ty := t_Cr 0) (C := R_Cr) (T := F_Cr) (N := 5) hx hb hw ku_Cr t_Cr t_Cr_ok n_Cr hown hK hP hD hS 0 rfl rfl 0 (by decide) (hw _ kw_053bb905) (fun _ h9 => h9) rfl hin rfl (t_Cr_ok 0 (by decide)) rfl rfl (Nat.le_of_ble_eq_true rfl) d_Cr_init_9 (fun H locs hP hD hS => ?_)
  replace hP : va_P D sw_cl [(k, .inr (4, [.ref q7, .null, .null, .int 0, .int 0])), (q7, .inl (cI, 64, .inl (fun _ => 0)))] H := hP
  replace hD : va_D A [(k, .inr (4, [.ref q7, .null, .null, .int 0, .int 0])), (q7, .inl (cI, 64, .inl (fun _ => 0)))] := hD
  refine lv_aload_n hx hb d_Cr_init_12 rfl (lv_at hl 0 rfl) ?_
  refine lv_bipush (v := 64) hx hb d_Cr_init_13 (by decide) ?_
  have hq1 : 1 + 1 ≤ 3 := by decide
  have hq2 : 64 + 64 ≤ 192 := by decide
  refine va_newa (atype := .int) (a0 := (64, .inl (fun _ => 0))) (N' := 64) hx hb (hw _ kw_2e6385fb) rfl hK hP hD hS hA (fun _ => rfl) (by decide) (by decide) (by decide) hq1 hq2 d_Cr_init_15 (fun q15 cA H hKn hP hD hS => ?_)
  obtain rfl : cI = cA := sw_uni hKn
  replace hP : va_P D sw_cl [(k, .inr (4, [.ref q7, .null, .null, .int 0, .int 0])), (q7, .inl (cI, 64, .inl (fun _ => 0))), (q15, .inl (cI, 64, .inl (fun _ => 0)))] H := hP
  replace hD : va_D A [(k, .inr (4, [.ref q7, .null, .null, .int 0, .int 0])), (q7, .inl (cI, 64, .inl (fun _ => 0))), (q15, .inl (cI, 64, .inl (fun _ => 0)))] := hD
  refine W.widen (k := 2) (n := 128) (by decide) (by decide) ?_
  refine va_putF (D := D) (ci := 4) (v := .ref q15) (ty := t_Cr 1) (C := R_Cr) (T := F_Cr) (N := 5) hx hb hw ku_Cr t_Cr t_Cr_ok n_Cr hown hK hP hD hS 0 rfl rfl 1 (by decide) (hw _ kw_600bd2b2) (fun _ h9 => h9) rfl hin rfl (t_Cr_ok 1 (by decide)) rfl rfl (Nat.le_of_ble_eq_true rfl) d_Cr_init_17 (fun H locs hP hD hS => ?_)
  replace hP : va_P D sw_cl [(k, .inr (4, [.ref q7, .ref q15, .null, .int 0, .int 0])), (q7, .inl (cI, 64, .inl (fun _ => 0))), (q15, .inl (cI, 64, .inl (fun _ => 0)))] H := hP
  replace hD : va_D A [(k, .inr (4, [.ref q7, .ref q15, .null, .int 0, .int 0])), (q7, .inl (cI, 64, .inl (fun _ => 0))), (q15, .inl (cI, 64, .inl (fun _ => 0)))] := hD
  refine lv_aload_n hx hb d_Cr_init_20 rfl (lv_at hl 0 rfl) ?_
  refine lv_bipush (v := 64) hx hb d_Cr_init_21 (by decide) ?_
  have hq1 : 2 + 1 ≤ 3 := by decide
  have hq2 : 128 + 64 ≤ 192 := by decide
  refine va_newa (atype := .int) (a0 := (64, .inl (fun _ => 0))) (N' := 64) hx hb (hw _ kw_2e6385fb) rfl hK hP hD hS hA (fun _ => rfl) (by decide) (by decide) (by decide) hq1 hq2 d_Cr_init_23 (fun q23 cA H hKn hP hD hS => ?_)
  obtain rfl : cI = cA := sw_uni hKn
  replace hP : va_P D sw_cl [(k, .inr (4, [.ref q7, .ref q15, .null, .int 0, .int 0])), (q7, .inl (cI, 64, .inl (fun _ => 0))), (q15, .inl (cI, 64, .inl (fun _ => 0))), (q23, .inl (cI, 64, .inl (fun _ => 0)))] H := hP
  replace hD : va_D A [(k, .inr (4, [.ref q7, .ref q15, .null, .int 0, .int 0])), (q7, .inl (cI, 64, .inl (fun _ => 0))), (q15, .inl (cI, 64, .inl (fun _ => 0))), (q23, .inl (cI, 64, .inl (fun _ => 0)))] := hD
  refine W.widen (k := 3) (n := 192) (by decide) (by decide) ?_
  refine va_putF (D := D) (ci := 4) (v := .ref q23) (ty := t_Cr 2) (C := R_Cr) (T := F_Cr) (N := 5) hx hb hw ku_Cr t_Cr t_Cr_ok n_Cr hown hK hP hD hS 0 rfl rfl 2 (by decide) (hw _ kw_47a18be0) (fun _ h9 => h9) rfl hin rfl (t_Cr_ok 2 (by decide)) rfl rfl (Nat.le_of_ble_eq_true rfl) d_Cr_init_25 (fun H locs hP hD hS => ?_)
  replace hP : va_P D sw_cl [(k, .inr (4, [.ref q7, .ref q15, .ref q23, .int 0, .int 0])), (q7, .inl (cI, 64, .inl (fun _ => 0))), (q15, .inl (cI, 64, .inl (fun _ => 0))), (q23, .inl (cI, 64, .inl (fun _ => 0)))] H := hP
  replace hD : va_D A [(k, .inr (4, [.ref q7, .ref q15, .ref q23, .int 0, .int 0])), (q7, .inl (cI, 64, .inl (fun _ => 0))), (q15, .inl (cI, 64, .inl (fun _ => 0))), (q23, .inl (cI, 64, .inl (fun _ => 0)))] := hD
  refine lv_aload_n hx hb d_Cr_init_28 rfl (lv_at hl 0 rfl) ?_
  refine lv_iconst (v := 0) hx hb d_Cr_init_29 (by decide) ?_
  refine va_put (D := D) (ci := 4) (v := .int 0) (ty := t_Cr 3) (C := R_Cr) (T := F_Cr) (N := 5) hx hb hw ku_Cr t_Cr t_Cr_ok n_Cr hown hK hP hD hS 0 rfl rfl 3 (by decide) (hw _ kw_7f5cc8e8) (fun _ h9 => h9) rfl (t_Cr_ok 3 (by decide)) rfl rfl (Nat.le_of_ble_eq_true rfl) d_Cr_init_30 (fun H locs hP hD hS => ?_)
  replace hP : va_P D sw_cl [(k, .inr (4, [.ref q7, .ref q15, .ref q23, .int 0, .int 0])), (q7, .inl (cI, 64, .inl (fun _ => 0))), (q15, .inl (cI, 64, .inl (fun _ => 0))), (q23, .inl (cI, 64, .inl (fun _ => 0)))] H := hP
  replace hD : va_D A [(k, .inr (4, [.ref q7, .ref q15, .ref q23, .int 0, .int 0])), (q7, .inl (cI, 64, .inl (fun _ => 0))), (q15, .inl (cI, 64, .inl (fun _ => 0))), (q23, .inl (cI, 64, .inl (fun _ => 0)))] := hD
  refine lv_aload_n hx hb d_Cr_init_33 rfl (lv_at hl 0 rfl) ?_
  refine lv_iconst (v := (-1)) hx hb d_Cr_init_34 (by decide) ?_
  refine va_put (D := D) (ci := 4) (v := .int (-1)) (ty := t_Cr 4) (C := R_Cr) (T := F_Cr) (N := 5) hx hb hw ku_Cr t_Cr t_Cr_ok n_Cr hown hK hP hD hS 0 rfl rfl 4 (by decide) (hw _ kw_767774d4) (fun _ h9 => h9) rfl (t_Cr_ok 4 (by decide)) rfl rfl (Nat.le_of_ble_eq_true rfl) d_Cr_init_35 (fun H locs hP hD hS => ?_)
  replace hP : va_P D sw_cl [(k, .inr (4, [.ref q7, .ref q15, .ref q23, .int 0, .int (-1)])), (q7, .inl (cI, 64, .inl (fun _ => 0))), (q15, .inl (cI, 64, .inl (fun _ => 0))), (q23, .inl (cI, 64, .inl (fun _ => 0)))] H := hP
  replace hD : va_D A [(k, .inr (4, [.ref q7, .ref q15, .ref q23, .int 0, .int (-1)])), (q7, .inl (cI, 64, .inl (fun _ => 0))), (q15, .inl (cI, 64, .inl (fun _ => 0))), (q23, .inl (cI, 64, .inl (fun _ => 0)))] := hD
  have hP9 := hP.sub (ws' := [(k, .inr (4, [.ref q7, .ref q15, .ref q23, .int 0, .int (-1)])), (q7, .inl (cI, 64, .inl (fun _ => 0))), (q15, .inl (cI, 64, .inl (fun _ => 0))), (q23, .inl (cI, 64, .inl (fun _ => 0)))]) [0, 1, 2, 3] rfl
  have hD9 := hD.sub (ws' := [(k, .inr (4, [.ref q7, .ref q15, .ref q23, .int 0, .int (-1)])), (q7, .inl (cI, 64, .inl (fun _ => 0))), (q15, .inl (cI, 64, .inl (fun _ => 0))), (q23, .inl (cI, 64, .inl (fun _ => 0)))]) [0, 1, 2, 3] (by decide) rfl
  exact W.vret hx hb hr (fun T9 hT9 hW9 => ⟨⟨(q7, q15, q23), rfl, by first | trivial | (simp []), by rw [hT9]; exact hP9, hD9⟩, hS.F hT9⟩) hS.2.2 d_Cr_init_38
end
