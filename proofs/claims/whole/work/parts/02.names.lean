def R_SW : String := "SectorWalk"
def F_SW : u_T := fun k => match k with
  | 0 => ("SectorWalk", "draft", "LSectorWalk$Plan;", true)
  | 1 => ("SectorWalk", "map", "LSectorWalk$Plan;", true)
  | 2 => ("SectorWalk", "tape", "LSectorWalk$Tape;", true)
  | 3 => ("SectorWalk", "origin", "LSectorWalk$Stand;", true)
  | 4 => ("SectorWalk", "now", "LSectorWalk$Stand;", true)
  | 5 => ("SectorWalk", "latest", "LSectorWalk$Crossings;", true)
  | 6 => ("SectorWalk", "mapsBuilt", "I", false)
  | _ => ("SectorWalk", "started", "Z", false)
def t_SW : Nat → FieldType := fun k => match k with
  | 0 => .object "SectorWalk$Plan"
  | 1 => .object "SectorWalk$Plan"
  | 2 => .object "SectorWalk$Tape"
  | 3 => .object "SectorWalk$Stand"
  | 4 => .object "SectorWalk$Stand"
  | 5 => .object "SectorWalk$Crossings"
  | 6 => .int
  | _ => .boolean
theorem n_SW : ∀ a, a < 8 → ∀ b, b < 8 → a ≠ b → (F_SW a).2.1 ≠ (F_SW b).2.1 := by decide +kernel
theorem t_SW_ok : ∀ k, k < 8 → parseFieldDescriptor (F_SW k).2.2.1 = some (t_SW k) := by decide +kernel
theorem sw_fs_SW : ∀ j, j < 8 → defaultValue (t_SW j) = vp_V [.null, .null, .null, .null, .null, .null, .int 0, .int 0] j := by
  intro j hj
  match j, hj with
  | 0, _ => rfl
  | 1, _ => rfl
  | 2, _ => rfl
  | 3, _ => rfl
  | 4, _ => rfl
  | 5, _ => rfl
  | 6, _ => rfl
  | 7, _ => rfl
def R_Pl : String := "SectorWalk$Plan"
def F_Pl : u_T := fun k => match k with
  | 0 => ("SectorWalk$Plan", "vertexX", "[I", true)
  | 1 => ("SectorWalk$Plan", "vertexY", "[I", true)
  | 2 => ("SectorWalk$Plan", "floor", "[I", true)
  | 3 => ("SectorWalk$Plan", "ceiling", "[I", true)
  | 4 => ("SectorWalk$Plan", "from", "[I", true)
  | 5 => ("SectorWalk$Plan", "to", "[I", true)
  | 6 => ("SectorWalk$Plan", "front", "[I", true)
  | 7 => ("SectorWalk$Plan", "back", "[I", true)
  | 8 => ("SectorWalk$Plan", "vertexCount", "I", false)
  | 9 => ("SectorWalk$Plan", "sectorCount", "I", false)
  | _ => ("SectorWalk$Plan", "wallCount", "I", false)
def t_Pl : Nat → FieldType := fun k => match k with
  | 0 => .array .int
  | 1 => .array .int
  | 2 => .array .int
  | 3 => .array .int
  | 4 => .array .int
  | 5 => .array .int
  | 6 => .array .int
  | 7 => .array .int
  | 8 => .int
  | 9 => .int
  | _ => .int
theorem n_Pl : ∀ a, a < 11 → ∀ b, b < 11 → a ≠ b → (F_Pl a).2.1 ≠ (F_Pl b).2.1 := by decide +kernel
theorem t_Pl_ok : ∀ k, k < 11 → parseFieldDescriptor (F_Pl k).2.2.1 = some (t_Pl k) := by decide +kernel
theorem sw_fs_Pl : ∀ j, j < 11 → defaultValue (t_Pl j) = vp_V [.null, .null, .null, .null, .null, .null, .null, .null, .int 0, .int 0, .int 0] j := by
  intro j hj
  match j, hj with
  | 0, _ => rfl
  | 1, _ => rfl
  | 2, _ => rfl
  | 3, _ => rfl
  | 4, _ => rfl
  | 5, _ => rfl
  | 6, _ => rfl
  | 7, _ => rfl
  | 8, _ => rfl
  | 9, _ => rfl
  | 10, _ => rfl
def R_Ta : String := "SectorWalk$Tape"
def F_Ta : u_T := fun k => match k with
  | 0 => ("SectorWalk$Tape", "ahead", "[I", true)
  | 1 => ("SectorWalk$Tape", "aside", "[I", true)
  | 2 => ("SectorWalk$Tape", "turn", "[I", true)
  | _ => ("SectorWalk$Tape", "count", "I", false)
def t_Ta : Nat → FieldType := fun k => match k with
  | 0 => .array .int
  | 1 => .array .int
  | 2 => .array .int
  | _ => .int
theorem n_Ta : ∀ a, a < 4 → ∀ b, b < 4 → a ≠ b → (F_Ta a).2.1 ≠ (F_Ta b).2.1 := by decide +kernel
theorem t_Ta_ok : ∀ k, k < 4 → parseFieldDescriptor (F_Ta k).2.2.1 = some (t_Ta k) := by decide +kernel
theorem sw_fs_Ta : ∀ j, j < 4 → defaultValue (t_Ta j) = vp_V [.null, .null, .null, .int 0] j := by
  intro j hj
  match j, hj with
  | 0, _ => rfl
  | 1, _ => rfl
  | 2, _ => rfl
  | 3, _ => rfl
def R_St : String := "SectorWalk$Stand"
def F_St : u_T := fun k => match k with
  | 0 => ("SectorWalk$Stand", "x", "I", false)
  | 1 => ("SectorWalk$Stand", "y", "I", false)
  | 2 => ("SectorWalk$Stand", "angle", "I", false)
  | _ => ("SectorWalk$Stand", "sector", "I", false)
def t_St : Nat → FieldType := fun k => match k with
  | 0 => .int
  | 1 => .int
  | 2 => .int
  | _ => .int
theorem n_St : ∀ a, a < 4 → ∀ b, b < 4 → a ≠ b → (F_St a).2.1 ≠ (F_St b).2.1 := by decide +kernel
theorem t_St_ok : ∀ k, k < 4 → parseFieldDescriptor (F_St k).2.2.1 = some (t_St k) := by decide +kernel
theorem sw_fs_St : ∀ j, j < 4 → defaultValue (t_St j) = vp_V [.int 0, .int 0, .int 0, .int 0] j := by
  intro j hj
  match j, hj with
  | 0, _ => rfl
  | 1, _ => rfl
  | 2, _ => rfl
  | 3, _ => rfl
def R_Cr : String := "SectorWalk$Crossings"
def F_Cr : u_T := fun k => match k with
  | 0 => ("SectorWalk$Crossings", "order", "[I", true)
  | 1 => ("SectorWalk$Crossings", "p", "[I", true)
  | 2 => ("SectorWalk$Crossings", "q", "[I", true)
  | 3 => ("SectorWalk$Crossings", "count", "I", false)
  | _ => ("SectorWalk$Crossings", "firstStopper", "I", false)
def t_Cr : Nat → FieldType := fun k => match k with
  | 0 => .array .int
  | 1 => .array .int
  | 2 => .array .int
  | 3 => .int
  | _ => .int
theorem n_Cr : ∀ a, a < 5 → ∀ b, b < 5 → a ≠ b → (F_Cr a).2.1 ≠ (F_Cr b).2.1 := by decide +kernel
theorem t_Cr_ok : ∀ k, k < 5 → parseFieldDescriptor (F_Cr k).2.2.1 = some (t_Cr k) := by decide +kernel
theorem sw_fs_Cr : ∀ j, j < 5 → defaultValue (t_Cr j) = vp_V [.null, .null, .null, .int 0, .int 0] j := by
  intro j hj
  match j, hj with
  | 0, _ => rfl
  | 1, _ => rfl
  | 2, _ => rfl
  | 3, _ => rfl
  | 4, _ => rfl
def R_Mo : String := "SectorWalkModel"
def F_Mo : u_T := fun k => match k with
  | 0 => ("SectorWalkModel", "thrown", "I", false)
  | 1 => ("SectorWalkModel", "xs", "[I", true)
  | 2 => ("SectorWalkModel", "ys", "[I", true)
  | 3 => ("SectorWalkModel", "vertices", "I", false)
  | 4 => ("SectorWalkModel", "floors", "[I", true)
  | 5 => ("SectorWalkModel", "ceilings", "[I", true)
  | 6 => ("SectorWalkModel", "sectors", "I", false)
  | 7 => ("SectorWalkModel", "froms", "[I", true)
  | 8 => ("SectorWalkModel", "tos", "[I", true)
  | 9 => ("SectorWalkModel", "fronts", "[I", true)
  | 10 => ("SectorWalkModel", "backs", "[I", true)
  | 11 => ("SectorWalkModel", "walls", "I", false)
  | 12 => ("SectorWalkModel", "ax", "[I", true)
  | 13 => ("SectorWalkModel", "ay", "[I", true)
  | 14 => ("SectorWalkModel", "bx", "[I", true)
  | 15 => ("SectorWalkModel", "by", "[I", true)
  | 16 => ("SectorWalkModel", "mapFronts", "[I", true)
  | 17 => ("SectorWalkModel", "mapBacks", "[I", true)
  | 18 => ("SectorWalkModel", "mapFloors", "[I", true)
  | 19 => ("SectorWalkModel", "mapCeilings", "[I", true)
  | 20 => ("SectorWalkModel", "mapVertices", "I", false)
  | 21 => ("SectorWalkModel", "mapSectors", "I", false)
  | 22 => ("SectorWalkModel", "mapWalls", "I", false)
  | 23 => ("SectorWalkModel", "built", "I", false)
  | 24 => ("SectorWalkModel", "started", "Z", false)
  | 25 => ("SectorWalkModel", "begin", "[I", true)
  | 26 => ("SectorWalkModel", "now", "[I", true)
  | 27 => ("SectorWalkModel", "aheads", "[I", true)
  | 28 => ("SectorWalkModel", "asides", "[I", true)
  | 29 => ("SectorWalkModel", "turns", "[I", true)
  | 30 => ("SectorWalkModel", "inputs", "I", false)
  | 31 => ("SectorWalkModel", "crossed", "[I", true)
  | 32 => ("SectorWalkModel", "ps", "[J", true)
  | 33 => ("SectorWalkModel", "qs", "[J", true)
  | 34 => ("SectorWalkModel", "many", "I", false)
  | _ => ("SectorWalkModel", "stopper", "I", false)
def t_Mo : Nat → FieldType := fun k => match k with
  | 0 => .int
  | 1 => .array .int
  | 2 => .array .int
  | 3 => .int
  | 4 => .array .int
  | 5 => .array .int
  | 6 => .int
  | 7 => .array .int
  | 8 => .array .int
  | 9 => .array .int
  | 10 => .array .int
  | 11 => .int
  | 12 => .array .int
  | 13 => .array .int
  | 14 => .array .int
  | 15 => .array .int
  | 16 => .array .int
  | 17 => .array .int
  | 18 => .array .int
  | 19 => .array .int
  | 20 => .int
  | 21 => .int
  | 22 => .int
  | 23 => .int
  | 24 => .boolean
  | 25 => .array .int
  | 26 => .array .int
  | 27 => .array .int
  | 28 => .array .int
  | 29 => .array .int
  | 30 => .int
  | 31 => .array .int
  | 32 => .array (.long)
  | 33 => .array (.long)
  | 34 => .int
  | _ => .int
theorem n_Mo : ∀ a, a < 36 → ∀ b, b < 36 → a ≠ b → (F_Mo a).2.1 ≠ (F_Mo b).2.1 := by decide +kernel
theorem t_Mo_ok : ∀ k, k < 36 → parseFieldDescriptor (F_Mo k).2.2.1 = some (t_Mo k) := by decide +kernel
theorem sw_fs_Mo : ∀ j, j < 36 → defaultValue (t_Mo j) = vp_V [.int 0, .null, .null, .int 0, .null, .null, .int 0, .null, .null, .null, .null, .int 0, .null, .null, .null, .null, .null, .null, .null, .null, .int 0, .int 0, .int 0, .int 0, .int 0, .null, .null, .null, .null, .null, .int 0, .null, .null, .null, .int 0, .int 0] j := by
  intro j hj
  match j, hj with
  | 0, _ => rfl
  | 1, _ => rfl
  | 2, _ => rfl
  | 3, _ => rfl
  | 4, _ => rfl
  | 5, _ => rfl
  | 6, _ => rfl
  | 7, _ => rfl
  | 8, _ => rfl
  | 9, _ => rfl
  | 10, _ => rfl
  | 11, _ => rfl
  | 12, _ => rfl
  | 13, _ => rfl
  | 14, _ => rfl
  | 15, _ => rfl
  | 16, _ => rfl
  | 17, _ => rfl
  | 18, _ => rfl
  | 19, _ => rfl
  | 20, _ => rfl
  | 21, _ => rfl
  | 22, _ => rfl
  | 23, _ => rfl
  | 24, _ => rfl
  | 25, _ => rfl
  | 26, _ => rfl
  | 27, _ => rfl
  | 28, _ => rfl
  | 29, _ => rfl
  | 30, _ => rfl
  | 31, _ => rfl
  | 32, _ => rfl
  | 33, _ => rfl
  | 34, _ => rfl
  | 35, _ => rfl
  | j + 36, h => exact absurd h (by omega)
abbrev sw_cl : List vw_C := [(R_SW, F_SW, 8), (R_Pl, F_Pl, 11), (R_Ta, F_Ta, 4), (R_St, F_St, 4), (R_Cr, F_Cr, 5), (R_Mo, F_Mo, 36)]

def R_Math : String := "java/lang/Math"
abbrev b_Math_floorDiv : ByteArray := prog_8_method_47_code
def y_Math_floorDiv : MethodName := ⟨R_Math, "floorDiv", "(II)I"⟩
abbrev b_Math_floorMod : ByteArray := prog_8_method_50_code
def y_Math_floorMod : MethodName := ⟨R_Math, "floorMod", "(II)I"⟩
abbrev b_SW_isWithin : ByteArray := prog_1_method_19_code
def y_SW_isWithin : MethodName := ⟨R_SW, "isWithin", "(II)Z"⟩
abbrev b_SW_isPlaceOfWalker : ByteArray := prog_1_method_20_code
def y_SW_isPlaceOfWalker : MethodName := ⟨R_SW, "isPlaceOfWalker", "(II)Z"⟩
abbrev b_SW_isInput : ByteArray := prog_1_method_21_code
def y_SW_isInput : MethodName := ⟨R_SW, "isInput", "(III)Z"⟩
abbrev b_SW_cross : ByteArray := prog_1_method_23_code
def y_SW_cross : MethodName := ⟨R_SW, "cross", "(IIII)I"⟩
abbrev b_SW_cosineOf : ByteArray := prog_1_method_22_code
def y_SW_cosineOf : MethodName := ⟨R_SW, "cosineOf", "(I)I"⟩
abbrev b_Pl_hasVertex : ByteArray := prog_3_method_2_code
def y_Pl_hasVertex : MethodName := ⟨R_Pl, "hasVertex", "(I)Z"⟩
abbrev b_Pl_hasSector : ByteArray := prog_3_method_3_code
def y_Pl_hasSector : MethodName := ⟨R_Pl, "hasSector", "(I)Z"⟩
abbrev b_Pl_isTaken : ByteArray := prog_3_method_5_code
def y_Pl_isTaken : MethodName := ⟨R_Pl, "isTaken", "(II)Z"⟩
abbrev b_Pl_addVertex : ByteArray := prog_3_method_4_code
def y_Pl_addVertex : MethodName := ⟨R_Pl, "addVertex", "(II)I"⟩
abbrev b_Pl_addSector : ByteArray := prog_3_method_6_code
def y_Pl_addSector : MethodName := ⟨R_Pl, "addSector", "(II)I"⟩
abbrev b_Pl_addWall : ByteArray := prog_3_method_7_code
def y_Pl_addWall : MethodName := ⟨R_Pl, "addWall", "(IIII)I"⟩
abbrev b_Pl_removeLastWall : ByteArray := prog_3_method_8_code
def y_Pl_removeLastWall : MethodName := ⟨R_Pl, "removeLastWall", "()Z"⟩
abbrev b_Pl_makeEmpty : ByteArray := prog_3_method_9_code
def y_Pl_makeEmpty : MethodName := ⟨R_Pl, "makeEmpty", "()V"⟩
abbrev b_Pl_becomeCopyOf : ByteArray := prog_3_method_10_code
def y_Pl_becomeCopyOf : MethodName := ⟨R_Pl, "becomeCopyOf", "(LSectorWalk$Plan;)V"⟩
abbrev b_Ta_append : ByteArray := prog_5_method_2_code
def y_Ta_append : MethodName := ⟨R_Ta, "append", "(III)I"⟩
abbrev b_Ta_removeLast : ByteArray := prog_5_method_3_code
def y_Ta_removeLast : MethodName := ⟨R_Ta, "removeLast", "(I)Z"⟩
abbrev b_St_becomeCopyOf : ByteArray := prog_4_method_2_code
def y_St_becomeCopyOf : MethodName := ⟨R_St, "becomeCopyOf", "(LSectorWalk$Stand;)V"⟩
abbrev b_Cr_forget : ByteArray := prog_2_method_2_code
def y_Cr_forget : MethodName := ⟨R_Cr, "forget", "()V"⟩
abbrev b_Pl_side : ByteArray := prog_3_method_16_code
def y_Pl_side : MethodName := ⟨R_Pl, "side", "(III)I"⟩
abbrev b_Pl_straddles : ByteArray := prog_3_method_15_code
def y_Pl_straddles : MethodName := ⟨R_Pl, "straddles", "(IIII)Z"⟩
abbrev b_Pl_leaveAlike : ByteArray := prog_3_method_13_code
def y_Pl_leaveAlike : MethodName := ⟨R_Pl, "leaveAlike", "(III)Z"⟩
abbrev b_Pl_boxesMeet : ByteArray := prog_3_method_14_code
def y_Pl_boxesMeet : MethodName := ⟨R_Pl, "boxesMeet", "([IIIII)Z"⟩
abbrev b_Pl_clash : ByteArray := prog_3_method_12_code
def y_Pl_clash : MethodName := ⟨R_Pl, "clash", "(II)Z"⟩
abbrev b_Pl_firstWrongWall : ByteArray := prog_3_method_11_code
def y_Pl_firstWrongWall : MethodName := ⟨R_Pl, "firstWrongWall", "()I"⟩
abbrev b_Pl_stops : ByteArray := prog_3_method_17_code
def y_Pl_stops : MethodName := ⟨R_Pl, "stops", "(IZ)Z"⟩
abbrev b_Cr_comesFromFront : ByteArray := prog_2_method_8_code
def y_Cr_comesFromFront : MethodName := ⟨R_Cr, "comesFromFront", "(I)Z"⟩
abbrev b_Cr_isUpToOne : ByteArray := prog_2_method_5_code
def y_Cr_isUpToOne : MethodName := ⟨R_Cr, "isUpToOne", "(II)Z"⟩
abbrev b_Cr_isFarther : ByteArray := prog_2_method_7_code
def y_Cr_isFarther : MethodName := ⟨R_Cr, "isFarther", "(II)Z"⟩
abbrev b_Cr_sectorBehind : ByteArray := prog_2_method_9_code
def y_Cr_sectorBehind : MethodName := ⟨R_Cr, "sectorBehind", "(LSectorWalk$Plan;I)I"⟩
abbrev b_Cr_insert : ByteArray := prog_2_method_6_code
def y_Cr_insert : MethodName := ⟨R_Cr, "insert", "(I)V"⟩
abbrev b_Cr_isCrossed : ByteArray := prog_2_method_4_code
def y_Cr_isCrossed : MethodName := ⟨R_Cr, "isCrossed", "(LSectorWalk$Plan;ILSectorWalk$Stand;II)Z"⟩
abbrev b_Cr_fill : ByteArray := prog_2_method_3_code
def y_Cr_fill : MethodName := ⟨R_Cr, "fill", "(LSectorWalk$Plan;LSectorWalk$Stand;II)V"⟩
abbrev b_St_init : ByteArray := prog_4_method_1_code
def y_St_init : MethodName := ⟨R_St, "<init>", "()V"⟩
abbrev b_Ta_init : ByteArray := prog_5_method_1_code
def y_Ta_init : MethodName := ⟨R_Ta, "<init>", "()V"⟩
abbrev b_Cr_init : ByteArray := prog_2_method_1_code
def y_Cr_init : MethodName := ⟨R_Cr, "<init>", "()V"⟩
abbrev b_Pl_init : ByteArray := prog_3_method_1_code
def y_Pl_init : MethodName := ⟨R_Pl, "<init>", "()V"⟩
abbrev b_SW_init : ByteArray := prog_1_method_1_code
def y_SW_init : MethodName := ⟨R_SW, "<init>", "()V"⟩
abbrev b_SW_vertex : ByteArray := prog_1_method_2_code
def y_SW_vertex : MethodName := ⟨R_SW, "vertex", "(II)I"⟩
abbrev b_SW_sector : ByteArray := prog_1_method_3_code
def y_SW_sector : MethodName := ⟨R_SW, "sector", "(II)I"⟩
abbrev b_SW_wall : ByteArray := prog_1_method_4_code
def y_SW_wall : MethodName := ⟨R_SW, "wall", "(IIII)I"⟩
abbrev b_SW_drop : ByteArray := prog_1_method_5_code
def y_SW_drop : MethodName := ⟨R_SW, "drop", "()Z"⟩
abbrev b_SW_clear : ByteArray := prog_1_method_6_code
def y_SW_clear : MethodName := ⟨R_SW, "clear", "()V"⟩
abbrev b_SW_input : ByteArray := prog_1_method_9_code
def y_SW_input : MethodName := ⟨R_SW, "input", "(III)I"⟩
abbrev b_SW_undo : ByteArray := prog_1_method_10_code
def y_SW_undo : MethodName := ⟨R_SW, "undo", "(I)Z"⟩
abbrev b_SW_crossed : ByteArray := prog_1_method_13_code
def y_SW_crossed : MethodName := ⟨R_SW, "crossed", "(I)I"⟩
abbrev b_SW_stopper : ByteArray := prog_1_method_14_code
def y_SW_stopper : MethodName := ⟨R_SW, "stopper", "()I"⟩
abbrev b_SW_walker : ByteArray := prog_1_method_15_code
def y_SW_walker : MethodName := ⟨R_SW, "walker", "(I)I"⟩
abbrev b_SW_look : ByteArray := prog_1_method_16_code
def y_SW_look : MethodName := ⟨R_SW, "look", "(I)I"⟩
abbrev b_SW_returnToOrigin : ByteArray := prog_1_method_17_code
def y_SW_returnToOrigin : MethodName := ⟨R_SW, "returnToOrigin", "()V"⟩
abbrev b_SW_start : ByteArray := prog_1_method_8_code
def y_SW_start : MethodName := ⟨R_SW, "start", "(IIII)Z"⟩
abbrev b_SW_build : ByteArray := prog_1_method_7_code
def y_SW_build : MethodName := ⟨R_SW, "build", "()I"⟩
abbrev b_SW_walk : ByteArray := prog_1_method_18_code
def y_SW_walk : MethodName := ⟨R_SW, "walk", "(III)I"⟩
abbrev b_SW_step : ByteArray := prog_1_method_12_code
def y_SW_step : MethodName := ⟨R_SW, "step", "(III)I"⟩
abbrev b_SW_play : ByteArray := prog_1_method_11_code
def y_SW_play : MethodName := ⟨R_SW, "play", "(I)I"⟩
def sw_words : List Cond := lw_tbl.filter goodWord
theorem sw_good : GoodIn sw_words sw_words := fun w h => ⟨h, good_of_word (List.mem_filter.mp h).2⟩
theorem sw_sub : ∀ w ∈ sw_words, w ∈ lw_tbl := fun w h => (List.mem_filter.mp h).1
theorem kc_Math_floorDiv : Cond.code y_Math_floorDiv b_Math_floorDiv 3 (some .int) ∈ sw_words := List.mem_filter.mpr ⟨List.mem_append_right _ (List.mem_of_getElem? (i := 320) rfl), rfl⟩
abbrev w_Math_floorDiv : List Cond := .code y_Math_floorDiv b_Math_floorDiv 3 (some .int) :: sw_words
theorem yd_Math_floorDiv : y_Math_floorDiv.cls ≠ "java/lang/invoke/MethodHandle" ∧ y_Math_floorDiv.cls ≠ "java/lang/invoke/VarHandle" ∧ (parseMethodDescriptor y_Math_floorDiv.desc).map (fun d => d.parameters.length) = some 2 := by decide +kernel
theorem kc_Math_floorMod : Cond.code y_Math_floorMod b_Math_floorMod 3 (some .int) ∈ sw_words := List.mem_filter.mpr ⟨List.mem_append_right _ (List.mem_of_getElem? (i := 312) rfl), rfl⟩
abbrev w_Math_floorMod : List Cond := .code y_Math_floorMod b_Math_floorMod 3 (some .int) :: sw_words
theorem yd_Math_floorMod : y_Math_floorMod.cls ≠ "java/lang/invoke/MethodHandle" ∧ y_Math_floorMod.cls ≠ "java/lang/invoke/VarHandle" ∧ (parseMethodDescriptor y_Math_floorMod.desc).map (fun d => d.parameters.length) = some 2 := by decide +kernel
theorem kc_SW_isWithin : Cond.code y_SW_isWithin b_SW_isWithin 2 (some .boolean) ∈ sw_words := List.mem_filter.mpr ⟨List.mem_append_right _ (List.mem_of_getElem? (i := 172) rfl), rfl⟩
abbrev w_SW_isWithin : List Cond := .code y_SW_isWithin b_SW_isWithin 2 (some .boolean) :: sw_words
theorem yd_SW_isWithin : y_SW_isWithin.cls ≠ "java/lang/invoke/MethodHandle" ∧ y_SW_isWithin.cls ≠ "java/lang/invoke/VarHandle" ∧ (parseMethodDescriptor y_SW_isWithin.desc).map (fun d => d.parameters.length) = some 2 := by decide +kernel
theorem kc_SW_isPlaceOfWalker : Cond.code y_SW_isPlaceOfWalker b_SW_isPlaceOfWalker 2 (some .boolean) ∈ sw_words := List.mem_filter.mpr ⟨List.mem_append_right _ (List.mem_of_getElem? (i := 274) rfl), rfl⟩
abbrev w_SW_isPlaceOfWalker : List Cond := .code y_SW_isPlaceOfWalker b_SW_isPlaceOfWalker 2 (some .boolean) :: sw_words
theorem yd_SW_isPlaceOfWalker : y_SW_isPlaceOfWalker.cls ≠ "java/lang/invoke/MethodHandle" ∧ y_SW_isPlaceOfWalker.cls ≠ "java/lang/invoke/VarHandle" ∧ (parseMethodDescriptor y_SW_isPlaceOfWalker.desc).map (fun d => d.parameters.length) = some 2 := by decide +kernel
theorem kc_SW_isInput : Cond.code y_SW_isInput b_SW_isInput 3 (some .boolean) ∈ sw_words := List.mem_filter.mpr ⟨List.mem_append_right _ (List.mem_of_getElem? (i := 289) rfl), rfl⟩
abbrev w_SW_isInput : List Cond := .code y_SW_isInput b_SW_isInput 3 (some .boolean) :: sw_words
theorem yd_SW_isInput : y_SW_isInput.cls ≠ "java/lang/invoke/MethodHandle" ∧ y_SW_isInput.cls ≠ "java/lang/invoke/VarHandle" ∧ (parseMethodDescriptor y_SW_isInput.desc).map (fun d => d.parameters.length) = some 3 := by decide +kernel
theorem kc_SW_cross : Cond.code y_SW_cross b_SW_cross 4 (some .int) ∈ sw_words := List.mem_filter.mpr ⟨List.mem_append_right _ (List.mem_of_getElem? (i := 239) rfl), rfl⟩
abbrev w_SW_cross : List Cond := .code y_SW_cross b_SW_cross 4 (some .int) :: sw_words
theorem yd_SW_cross : y_SW_cross.cls ≠ "java/lang/invoke/MethodHandle" ∧ y_SW_cross.cls ≠ "java/lang/invoke/VarHandle" ∧ (parseMethodDescriptor y_SW_cross.desc).map (fun d => d.parameters.length) = some 4 := by decide +kernel
theorem kc_SW_cosineOf : Cond.code y_SW_cosineOf b_SW_cosineOf 3 (some .int) ∈ sw_words := List.mem_filter.mpr ⟨List.mem_append_right _ (List.mem_of_getElem? (i := 315) rfl), rfl⟩
abbrev w_SW_cosineOf : List Cond := .code y_SW_cosineOf b_SW_cosineOf 3 (some .int) :: sw_words
theorem yd_SW_cosineOf : y_SW_cosineOf.cls ≠ "java/lang/invoke/MethodHandle" ∧ y_SW_cosineOf.cls ≠ "java/lang/invoke/VarHandle" ∧ (parseMethodDescriptor y_SW_cosineOf.desc).map (fun d => d.parameters.length) = some 1 := by decide +kernel
theorem kc_Pl_hasVertex : Cond.code y_Pl_hasVertex b_Pl_hasVertex 2 (some .boolean) ∈ sw_words := List.mem_filter.mpr ⟨List.mem_append_right _ (List.mem_of_getElem? (i := 196) rfl), rfl⟩
abbrev w_Pl_hasVertex : List Cond := .code y_Pl_hasVertex b_Pl_hasVertex 2 (some .boolean) :: sw_words
theorem yd_Pl_hasVertex : y_Pl_hasVertex.cls ≠ "java/lang/invoke/MethodHandle" ∧ y_Pl_hasVertex.cls ≠ "java/lang/invoke/VarHandle" ∧ (parseMethodDescriptor y_Pl_hasVertex.desc).map (fun d => d.parameters.length) = some 1 := by decide +kernel
theorem kc_Pl_hasSector : Cond.code y_Pl_hasSector b_Pl_hasSector 2 (some .boolean) ∈ sw_words := List.mem_filter.mpr ⟨List.mem_append_right _ (List.mem_of_getElem? (i := 200) rfl), rfl⟩
abbrev w_Pl_hasSector : List Cond := .code y_Pl_hasSector b_Pl_hasSector 2 (some .boolean) :: sw_words
theorem yd_Pl_hasSector : y_Pl_hasSector.cls ≠ "java/lang/invoke/MethodHandle" ∧ y_Pl_hasSector.cls ≠ "java/lang/invoke/VarHandle" ∧ (parseMethodDescriptor y_Pl_hasSector.desc).map (fun d => d.parameters.length) = some 1 := by decide +kernel
theorem kc_Pl_isTaken : Cond.code y_Pl_isTaken b_Pl_isTaken 4 (some .boolean) ∈ sw_words := List.mem_filter.mpr ⟨List.mem_append_right _ (List.mem_of_getElem? (i := 180) rfl), rfl⟩
abbrev w_Pl_isTaken : List Cond := .code y_Pl_isTaken b_Pl_isTaken 4 (some .boolean) :: sw_words
theorem yd_Pl_isTaken : y_Pl_isTaken.cls ≠ "java/lang/invoke/MethodHandle" ∧ y_Pl_isTaken.cls ≠ "java/lang/invoke/VarHandle" ∧ (parseMethodDescriptor y_Pl_isTaken.desc).map (fun d => d.parameters.length) = some 2 := by decide +kernel
theorem kc_Pl_addVertex : Cond.code y_Pl_addVertex b_Pl_addVertex 3 (some .int) ∈ sw_words := List.mem_filter.mpr ⟨List.mem_append_right _ (List.mem_of_getElem? (i := 176) rfl), rfl⟩
abbrev w_Pl_addVertex : List Cond := .code y_Pl_addVertex b_Pl_addVertex 3 (some .int) :: sw_words
theorem yd_Pl_addVertex : y_Pl_addVertex.cls ≠ "java/lang/invoke/MethodHandle" ∧ y_Pl_addVertex.cls ≠ "java/lang/invoke/VarHandle" ∧ (parseMethodDescriptor y_Pl_addVertex.desc).map (fun d => d.parameters.length) = some 2 := by decide +kernel
theorem kc_Pl_addSector : Cond.code y_Pl_addSector b_Pl_addSector 3 (some .int) ∈ sw_words := List.mem_filter.mpr ⟨List.mem_append_right _ (List.mem_of_getElem? (i := 188) rfl), rfl⟩
abbrev w_Pl_addSector : List Cond := .code y_Pl_addSector b_Pl_addSector 3 (some .int) :: sw_words
theorem yd_Pl_addSector : y_Pl_addSector.cls ≠ "java/lang/invoke/MethodHandle" ∧ y_Pl_addSector.cls ≠ "java/lang/invoke/VarHandle" ∧ (parseMethodDescriptor y_Pl_addSector.desc).map (fun d => d.parameters.length) = some 2 := by decide +kernel
theorem kc_Pl_addWall : Cond.code y_Pl_addWall b_Pl_addWall 5 (some .int) ∈ sw_words := List.mem_filter.mpr ⟨List.mem_append_right _ (List.mem_of_getElem? (i := 204) rfl), rfl⟩
abbrev w_Pl_addWall : List Cond := .code y_Pl_addWall b_Pl_addWall 5 (some .int) :: sw_words
theorem yd_Pl_addWall : y_Pl_addWall.cls ≠ "java/lang/invoke/MethodHandle" ∧ y_Pl_addWall.cls ≠ "java/lang/invoke/VarHandle" ∧ (parseMethodDescriptor y_Pl_addWall.desc).map (fun d => d.parameters.length) = some 4 := by decide +kernel
theorem kc_Pl_removeLastWall : Cond.code y_Pl_removeLastWall b_Pl_removeLastWall 1 (some .boolean) ∈ sw_words := List.mem_filter.mpr ⟨List.mem_append_right _ (List.mem_of_getElem? (i := 212) rfl), rfl⟩
abbrev w_Pl_removeLastWall : List Cond := .code y_Pl_removeLastWall b_Pl_removeLastWall 1 (some .boolean) :: sw_words
theorem yd_Pl_removeLastWall : y_Pl_removeLastWall.cls ≠ "java/lang/invoke/MethodHandle" ∧ y_Pl_removeLastWall.cls ≠ "java/lang/invoke/VarHandle" ∧ (parseMethodDescriptor y_Pl_removeLastWall.desc).map (fun d => d.parameters.length) = some 0 := by decide +kernel
theorem kc_Pl_makeEmpty : Cond.code y_Pl_makeEmpty b_Pl_makeEmpty 1 none ∈ sw_words := List.mem_filter.mpr ⟨List.mem_append_right _ (List.mem_of_getElem? (i := 220) rfl), rfl⟩
abbrev w_Pl_makeEmpty : List Cond := .code y_Pl_makeEmpty b_Pl_makeEmpty 1 none :: sw_words
theorem yd_Pl_makeEmpty : y_Pl_makeEmpty.cls ≠ "java/lang/invoke/MethodHandle" ∧ y_Pl_makeEmpty.cls ≠ "java/lang/invoke/VarHandle" ∧ (parseMethodDescriptor y_Pl_makeEmpty.desc).map (fun d => d.parameters.length) = some 0 := by decide +kernel
theorem kc_Pl_becomeCopyOf : Cond.code y_Pl_becomeCopyOf b_Pl_becomeCopyOf 2 none ∈ sw_words := List.mem_filter.mpr ⟨List.mem_append_right _ (List.mem_of_getElem? (i := 260) rfl), rfl⟩
abbrev w_Pl_becomeCopyOf : List Cond := .code y_Pl_becomeCopyOf b_Pl_becomeCopyOf 2 none :: sw_words
theorem yd_Pl_becomeCopyOf : y_Pl_becomeCopyOf.cls ≠ "java/lang/invoke/MethodHandle" ∧ y_Pl_becomeCopyOf.cls ≠ "java/lang/invoke/VarHandle" ∧ (parseMethodDescriptor y_Pl_becomeCopyOf.desc).map (fun d => d.parameters.length) = some 1 := by decide +kernel
theorem kc_Ta_append : Cond.code y_Ta_append b_Ta_append 4 (some .int) ∈ sw_words := List.mem_filter.mpr ⟨List.mem_append_right _ (List.mem_of_getElem? (i := 293) rfl), rfl⟩
abbrev w_Ta_append : List Cond := .code y_Ta_append b_Ta_append 4 (some .int) :: sw_words
theorem yd_Ta_append : y_Ta_append.cls ≠ "java/lang/invoke/MethodHandle" ∧ y_Ta_append.cls ≠ "java/lang/invoke/VarHandle" ∧ (parseMethodDescriptor y_Ta_append.desc).map (fun d => d.parameters.length) = some 3 := by decide +kernel
theorem kc_Ta_removeLast : Cond.code y_Ta_removeLast b_Ta_removeLast 2 (some .boolean) ∈ sw_words := List.mem_filter.mpr ⟨List.mem_append_right _ (List.mem_of_getElem? (i := 301) rfl), rfl⟩
abbrev w_Ta_removeLast : List Cond := .code y_Ta_removeLast b_Ta_removeLast 2 (some .boolean) :: sw_words
theorem yd_Ta_removeLast : y_Ta_removeLast.cls ≠ "java/lang/invoke/MethodHandle" ∧ y_Ta_removeLast.cls ≠ "java/lang/invoke/VarHandle" ∧ (parseMethodDescriptor y_Ta_removeLast.desc).map (fun d => d.parameters.length) = some 1 := by decide +kernel
theorem kc_St_becomeCopyOf : Cond.code y_St_becomeCopyOf b_St_becomeCopyOf 2 none ∈ sw_words := List.mem_filter.mpr ⟨List.mem_append_right _ (List.mem_of_getElem? (i := 282) rfl), rfl⟩
abbrev w_St_becomeCopyOf : List Cond := .code y_St_becomeCopyOf b_St_becomeCopyOf 2 none :: sw_words
theorem yd_St_becomeCopyOf : y_St_becomeCopyOf.cls ≠ "java/lang/invoke/MethodHandle" ∧ y_St_becomeCopyOf.cls ≠ "java/lang/invoke/VarHandle" ∧ (parseMethodDescriptor y_St_becomeCopyOf.desc).map (fun d => d.parameters.length) = some 1 := by decide +kernel
theorem kc_Cr_forget : Cond.code y_Cr_forget b_Cr_forget 1 none ∈ sw_words := List.mem_filter.mpr ⟨List.mem_append_right _ (List.mem_of_getElem? (i := 267) rfl), rfl⟩
abbrev w_Cr_forget : List Cond := .code y_Cr_forget b_Cr_forget 1 none :: sw_words
theorem yd_Cr_forget : y_Cr_forget.cls ≠ "java/lang/invoke/MethodHandle" ∧ y_Cr_forget.cls ≠ "java/lang/invoke/VarHandle" ∧ (parseMethodDescriptor y_Cr_forget.desc).map (fun d => d.parameters.length) = some 0 := by decide +kernel
theorem kc_Pl_side : Cond.code y_Pl_side b_Pl_side 4 (some .int) ∈ sw_words := List.mem_filter.mpr ⟨List.mem_append_right _ (List.mem_of_getElem? (i := 256) rfl), rfl⟩
abbrev w_Pl_side : List Cond := .code y_Pl_side b_Pl_side 4 (some .int) :: sw_words
theorem yd_Pl_side : y_Pl_side.cls ≠ "java/lang/invoke/MethodHandle" ∧ y_Pl_side.cls ≠ "java/lang/invoke/VarHandle" ∧ (parseMethodDescriptor y_Pl_side.desc).map (fun d => d.parameters.length) = some 3 := by decide +kernel
theorem kc_Pl_straddles : Cond.code y_Pl_straddles b_Pl_straddles 7 (some .boolean) ∈ sw_words := List.mem_filter.mpr ⟨List.mem_append_right _ (List.mem_of_getElem? (i := 252) rfl), rfl⟩
abbrev w_Pl_straddles : List Cond := .code y_Pl_straddles b_Pl_straddles 7 (some .boolean) :: sw_words
theorem yd_Pl_straddles : y_Pl_straddles.cls ≠ "java/lang/invoke/MethodHandle" ∧ y_Pl_straddles.cls ≠ "java/lang/invoke/VarHandle" ∧ (parseMethodDescriptor y_Pl_straddles.desc).map (fun d => d.parameters.length) = some 4 := by decide +kernel
theorem kc_Pl_leaveAlike : Cond.code y_Pl_leaveAlike b_Pl_leaveAlike 8 (some .boolean) ∈ sw_words := List.mem_filter.mpr ⟨List.mem_append_right _ (List.mem_of_getElem? (i := 236) rfl), rfl⟩
abbrev w_Pl_leaveAlike : List Cond := .code y_Pl_leaveAlike b_Pl_leaveAlike 8 (some .boolean) :: sw_words
theorem yd_Pl_leaveAlike : y_Pl_leaveAlike.cls ≠ "java/lang/invoke/MethodHandle" ∧ y_Pl_leaveAlike.cls ≠ "java/lang/invoke/VarHandle" ∧ (parseMethodDescriptor y_Pl_leaveAlike.desc).map (fun d => d.parameters.length) = some 3 := by decide +kernel
theorem kc_Pl_boxesMeet : Cond.code y_Pl_boxesMeet b_Pl_boxesMeet 5 (some .boolean) ∈ sw_words := List.mem_filter.mpr ⟨List.mem_append_right _ (List.mem_of_getElem? (i := 242) rfl), rfl⟩
abbrev w_Pl_boxesMeet : List Cond := .code y_Pl_boxesMeet b_Pl_boxesMeet 5 (some .boolean) :: sw_words
theorem yd_Pl_boxesMeet : y_Pl_boxesMeet.cls ≠ "java/lang/invoke/MethodHandle" ∧ y_Pl_boxesMeet.cls ≠ "java/lang/invoke/VarHandle" ∧ (parseMethodDescriptor y_Pl_boxesMeet.desc).map (fun d => d.parameters.length) = some 5 := by decide +kernel
theorem kc_Pl_clash : Cond.code y_Pl_clash b_Pl_clash 7 (some .boolean) ∈ sw_words := List.mem_filter.mpr ⟨List.mem_append_right _ (List.mem_of_getElem? (i := 232) rfl), rfl⟩
abbrev w_Pl_clash : List Cond := .code y_Pl_clash b_Pl_clash 7 (some .boolean) :: sw_words
theorem yd_Pl_clash : y_Pl_clash.cls ≠ "java/lang/invoke/MethodHandle" ∧ y_Pl_clash.cls ≠ "java/lang/invoke/VarHandle" ∧ (parseMethodDescriptor y_Pl_clash.desc).map (fun d => d.parameters.length) = some 2 := by decide +kernel
theorem kc_Pl_firstWrongWall : Cond.code y_Pl_firstWrongWall b_Pl_firstWrongWall 3 (some .int) ∈ sw_words := List.mem_filter.mpr ⟨List.mem_append_right _ (List.mem_of_getElem? (i := 228) rfl), rfl⟩
abbrev w_Pl_firstWrongWall : List Cond := .code y_Pl_firstWrongWall b_Pl_firstWrongWall 3 (some .int) :: sw_words
theorem yd_Pl_firstWrongWall : y_Pl_firstWrongWall.cls ≠ "java/lang/invoke/MethodHandle" ∧ y_Pl_firstWrongWall.cls ≠ "java/lang/invoke/VarHandle" ∧ (parseMethodDescriptor y_Pl_firstWrongWall.desc).map (fun d => d.parameters.length) = some 0 := by decide +kernel
theorem kc_Pl_stops : Cond.code y_Pl_stops b_Pl_stops 6 (some .boolean) ∈ sw_words := List.mem_filter.mpr ⟨List.mem_append_right _ (List.mem_of_getElem? (i := 351) rfl), rfl⟩
abbrev w_Pl_stops : List Cond := .code y_Pl_stops b_Pl_stops 6 (some .boolean) :: sw_words
theorem yd_Pl_stops : y_Pl_stops.cls ≠ "java/lang/invoke/MethodHandle" ∧ y_Pl_stops.cls ≠ "java/lang/invoke/VarHandle" ∧ (parseMethodDescriptor y_Pl_stops.desc).map (fun d => d.parameters.length) = some 2 := by decide +kernel
theorem kc_Cr_comesFromFront : Cond.code y_Cr_comesFromFront b_Cr_comesFromFront 2 (some .boolean) ∈ sw_words := List.mem_filter.mpr ⟨List.mem_append_right _ (List.mem_of_getElem? (i := 347) rfl), rfl⟩
abbrev w_Cr_comesFromFront : List Cond := .code y_Cr_comesFromFront b_Cr_comesFromFront 2 (some .boolean) :: sw_words
theorem yd_Cr_comesFromFront : y_Cr_comesFromFront.cls ≠ "java/lang/invoke/MethodHandle" ∧ y_Cr_comesFromFront.cls ≠ "java/lang/invoke/VarHandle" ∧ (parseMethodDescriptor y_Cr_comesFromFront.desc).map (fun d => d.parameters.length) = some 1 := by decide +kernel
theorem kc_Cr_isUpToOne : Cond.code y_Cr_isUpToOne b_Cr_isUpToOne 2 (some .boolean) ∈ sw_words := List.mem_filter.mpr ⟨List.mem_append_right _ (List.mem_of_getElem? (i := 332) rfl), rfl⟩
abbrev w_Cr_isUpToOne : List Cond := .code y_Cr_isUpToOne b_Cr_isUpToOne 2 (some .boolean) :: sw_words
theorem yd_Cr_isUpToOne : y_Cr_isUpToOne.cls ≠ "java/lang/invoke/MethodHandle" ∧ y_Cr_isUpToOne.cls ≠ "java/lang/invoke/VarHandle" ∧ (parseMethodDescriptor y_Cr_isUpToOne.desc).map (fun d => d.parameters.length) = some 2 := by decide +kernel
theorem kc_Cr_isFarther : Cond.code y_Cr_isFarther b_Cr_isFarther 7 (some .boolean) ∈ sw_words := List.mem_filter.mpr ⟨List.mem_append_right _ (List.mem_of_getElem? (i := 340) rfl), rfl⟩
abbrev w_Cr_isFarther : List Cond := .code y_Cr_isFarther b_Cr_isFarther 7 (some .boolean) :: sw_words
theorem yd_Cr_isFarther : y_Cr_isFarther.cls ≠ "java/lang/invoke/MethodHandle" ∧ y_Cr_isFarther.cls ≠ "java/lang/invoke/VarHandle" ∧ (parseMethodDescriptor y_Cr_isFarther.desc).map (fun d => d.parameters.length) = some 2 := by decide +kernel
theorem kc_Cr_sectorBehind : Cond.code y_Cr_sectorBehind b_Cr_sectorBehind 4 (some .int) ∈ sw_words := List.mem_filter.mpr ⟨List.mem_append_right _ (List.mem_of_getElem? (i := 355) rfl), rfl⟩
abbrev w_Cr_sectorBehind : List Cond := .code y_Cr_sectorBehind b_Cr_sectorBehind 4 (some .int) :: sw_words
theorem yd_Cr_sectorBehind : y_Cr_sectorBehind.cls ≠ "java/lang/invoke/MethodHandle" ∧ y_Cr_sectorBehind.cls ≠ "java/lang/invoke/VarHandle" ∧ (parseMethodDescriptor y_Cr_sectorBehind.desc).map (fun d => d.parameters.length) = some 2 := by decide +kernel
theorem kc_Cr_insert : Cond.code y_Cr_insert b_Cr_insert 3 none ∈ sw_words := List.mem_filter.mpr ⟨List.mem_append_right _ (List.mem_of_getElem? (i := 336) rfl), rfl⟩
abbrev w_Cr_insert : List Cond := .code y_Cr_insert b_Cr_insert 3 none :: sw_words
theorem yd_Cr_insert : y_Cr_insert.cls ≠ "java/lang/invoke/MethodHandle" ∧ y_Cr_insert.cls ≠ "java/lang/invoke/VarHandle" ∧ (parseMethodDescriptor y_Cr_insert.desc).map (fun d => d.parameters.length) = some 1 := by decide +kernel
theorem kc_Cr_isCrossed : Cond.code y_Cr_isCrossed b_Cr_isCrossed 12 (some .boolean) ∈ sw_words := List.mem_filter.mpr ⟨List.mem_append_right _ (List.mem_of_getElem? (i := 328) rfl), rfl⟩
abbrev w_Cr_isCrossed : List Cond := .code y_Cr_isCrossed b_Cr_isCrossed 12 (some .boolean) :: sw_words
theorem yd_Cr_isCrossed : y_Cr_isCrossed.cls ≠ "java/lang/invoke/MethodHandle" ∧ y_Cr_isCrossed.cls ≠ "java/lang/invoke/VarHandle" ∧ (parseMethodDescriptor y_Cr_isCrossed.desc).map (fun d => d.parameters.length) = some 5 := by decide +kernel
theorem kc_Cr_fill : Cond.code y_Cr_fill b_Cr_fill 6 none ∈ sw_words := List.mem_filter.mpr ⟨List.mem_append_right _ (List.mem_of_getElem? (i := 324) rfl), rfl⟩
abbrev w_Cr_fill : List Cond := .code y_Cr_fill b_Cr_fill 6 none :: sw_words
theorem yd_Cr_fill : y_Cr_fill.cls ≠ "java/lang/invoke/MethodHandle" ∧ y_Cr_fill.cls ≠ "java/lang/invoke/VarHandle" ∧ (parseMethodDescriptor y_Cr_fill.desc).map (fun d => d.parameters.length) = some 4 := by decide +kernel
theorem kc_St_init : Cond.code y_St_init b_St_init 1 none ∈ sw_words := List.mem_filter.mpr ⟨List.mem_append_right _ (List.mem_of_getElem? (i := 95) rfl), rfl⟩
abbrev w_St_init : List Cond := .code y_St_init b_St_init 1 none :: sw_words
theorem yd_St_init : y_St_init.cls ≠ "java/lang/invoke/MethodHandle" ∧ y_St_init.cls ≠ "java/lang/invoke/VarHandle" ∧ (parseMethodDescriptor y_St_init.desc).map (fun d => d.parameters.length) = some 0 := by decide +kernel
theorem kc_Ta_init : Cond.code y_Ta_init b_Ta_init 1 none ∈ sw_words := List.mem_filter.mpr ⟨List.mem_append_right _ (List.mem_of_getElem? (i := 72) rfl), rfl⟩
abbrev w_Ta_init : List Cond := .code y_Ta_init b_Ta_init 1 none :: sw_words
theorem yd_Ta_init : y_Ta_init.cls ≠ "java/lang/invoke/MethodHandle" ∧ y_Ta_init.cls ≠ "java/lang/invoke/VarHandle" ∧ (parseMethodDescriptor y_Ta_init.desc).map (fun d => d.parameters.length) = some 0 := by decide +kernel
theorem kc_Cr_init : Cond.code y_Cr_init b_Cr_init 1 none ∈ sw_words := List.mem_filter.mpr ⟨List.mem_append_right _ (List.mem_of_getElem? (i := 120) rfl), rfl⟩
abbrev w_Cr_init : List Cond := .code y_Cr_init b_Cr_init 1 none :: sw_words
theorem yd_Cr_init : y_Cr_init.cls ≠ "java/lang/invoke/MethodHandle" ∧ y_Cr_init.cls ≠ "java/lang/invoke/VarHandle" ∧ (parseMethodDescriptor y_Cr_init.desc).map (fun d => d.parameters.length) = some 0 := by decide +kernel
theorem kc_Pl_init : Cond.code y_Pl_init b_Pl_init 1 none ∈ sw_words := List.mem_filter.mpr ⟨List.mem_append_right _ (List.mem_of_getElem? (i := 21) rfl), rfl⟩
abbrev w_Pl_init : List Cond := .code y_Pl_init b_Pl_init 1 none :: sw_words
theorem yd_Pl_init : y_Pl_init.cls ≠ "java/lang/invoke/MethodHandle" ∧ y_Pl_init.cls ≠ "java/lang/invoke/VarHandle" ∧ (parseMethodDescriptor y_Pl_init.desc).map (fun d => d.parameters.length) = some 0 := by decide +kernel
theorem kc_SW_init : Cond.code y_SW_init b_SW_init 1 none ∈ sw_words := List.mem_filter.mpr ⟨List.mem_append_right _ (List.mem_of_getElem? (i := 13) rfl), rfl⟩
abbrev w_SW_init : List Cond := .code y_SW_init b_SW_init 1 none :: sw_words
theorem yd_SW_init : y_SW_init.cls ≠ "java/lang/invoke/MethodHandle" ∧ y_SW_init.cls ≠ "java/lang/invoke/VarHandle" ∧ (parseMethodDescriptor y_SW_init.desc).map (fun d => d.parameters.length) = some 0 := by decide +kernel
theorem kc_SW_vertex : Cond.code y_SW_vertex b_SW_vertex 3 (some .int) ∈ sw_words := List.mem_filter.mpr ⟨List.mem_append_right _ (List.mem_of_getElem? (i := 169) rfl), rfl⟩
abbrev w_SW_vertex : List Cond := .code y_SW_vertex b_SW_vertex 3 (some .int) :: sw_words
theorem yd_SW_vertex : y_SW_vertex.cls ≠ "java/lang/invoke/MethodHandle" ∧ y_SW_vertex.cls ≠ "java/lang/invoke/VarHandle" ∧ (parseMethodDescriptor y_SW_vertex.desc).map (fun d => d.parameters.length) = some 2 := by decide +kernel
theorem kc_SW_sector : Cond.code y_SW_sector b_SW_sector 3 (some .int) ∈ sw_words := List.mem_filter.mpr ⟨List.mem_append_right _ (List.mem_of_getElem? (i := 184) rfl), rfl⟩
abbrev w_SW_sector : List Cond := .code y_SW_sector b_SW_sector 3 (some .int) :: sw_words
theorem yd_SW_sector : y_SW_sector.cls ≠ "java/lang/invoke/MethodHandle" ∧ y_SW_sector.cls ≠ "java/lang/invoke/VarHandle" ∧ (parseMethodDescriptor y_SW_sector.desc).map (fun d => d.parameters.length) = some 2 := by decide +kernel
theorem kc_SW_wall : Cond.code y_SW_wall b_SW_wall 5 (some .int) ∈ sw_words := List.mem_filter.mpr ⟨List.mem_append_right _ (List.mem_of_getElem? (i := 192) rfl), rfl⟩
abbrev w_SW_wall : List Cond := .code y_SW_wall b_SW_wall 5 (some .int) :: sw_words
theorem yd_SW_wall : y_SW_wall.cls ≠ "java/lang/invoke/MethodHandle" ∧ y_SW_wall.cls ≠ "java/lang/invoke/VarHandle" ∧ (parseMethodDescriptor y_SW_wall.desc).map (fun d => d.parameters.length) = some 4 := by decide +kernel
theorem kc_SW_drop : Cond.code y_SW_drop b_SW_drop 1 (some .boolean) ∈ sw_words := List.mem_filter.mpr ⟨List.mem_append_right _ (List.mem_of_getElem? (i := 208) rfl), rfl⟩
abbrev w_SW_drop : List Cond := .code y_SW_drop b_SW_drop 1 (some .boolean) :: sw_words
theorem yd_SW_drop : y_SW_drop.cls ≠ "java/lang/invoke/MethodHandle" ∧ y_SW_drop.cls ≠ "java/lang/invoke/VarHandle" ∧ (parseMethodDescriptor y_SW_drop.desc).map (fun d => d.parameters.length) = some 0 := by decide +kernel
theorem kc_SW_clear : Cond.code y_SW_clear b_SW_clear 1 none ∈ sw_words := List.mem_filter.mpr ⟨List.mem_append_right _ (List.mem_of_getElem? (i := 216) rfl), rfl⟩
abbrev w_SW_clear : List Cond := .code y_SW_clear b_SW_clear 1 none :: sw_words
theorem yd_SW_clear : y_SW_clear.cls ≠ "java/lang/invoke/MethodHandle" ∧ y_SW_clear.cls ≠ "java/lang/invoke/VarHandle" ∧ (parseMethodDescriptor y_SW_clear.desc).map (fun d => d.parameters.length) = some 0 := by decide +kernel
theorem kc_SW_input : Cond.code y_SW_input b_SW_input 4 (some .int) ∈ sw_words := List.mem_filter.mpr ⟨List.mem_append_right _ (List.mem_of_getElem? (i := 286) rfl), rfl⟩
abbrev w_SW_input : List Cond := .code y_SW_input b_SW_input 4 (some .int) :: sw_words
theorem yd_SW_input : y_SW_input.cls ≠ "java/lang/invoke/MethodHandle" ∧ y_SW_input.cls ≠ "java/lang/invoke/VarHandle" ∧ (parseMethodDescriptor y_SW_input.desc).map (fun d => d.parameters.length) = some 3 := by decide +kernel
theorem kc_SW_undo : Cond.code y_SW_undo b_SW_undo 2 (some .boolean) ∈ sw_words := List.mem_filter.mpr ⟨List.mem_append_right _ (List.mem_of_getElem? (i := 297) rfl), rfl⟩
abbrev w_SW_undo : List Cond := .code y_SW_undo b_SW_undo 2 (some .boolean) :: sw_words
theorem yd_SW_undo : y_SW_undo.cls ≠ "java/lang/invoke/MethodHandle" ∧ y_SW_undo.cls ≠ "java/lang/invoke/VarHandle" ∧ (parseMethodDescriptor y_SW_undo.desc).map (fun d => d.parameters.length) = some 1 := by decide +kernel
theorem kc_SW_crossed : Cond.code y_SW_crossed b_SW_crossed 2 (some .int) ∈ sw_words := List.mem_filter.mpr ⟨List.mem_append_right _ (List.mem_of_getElem? (i := 363) rfl), rfl⟩
abbrev w_SW_crossed : List Cond := .code y_SW_crossed b_SW_crossed 2 (some .int) :: sw_words
theorem yd_SW_crossed : y_SW_crossed.cls ≠ "java/lang/invoke/MethodHandle" ∧ y_SW_crossed.cls ≠ "java/lang/invoke/VarHandle" ∧ (parseMethodDescriptor y_SW_crossed.desc).map (fun d => d.parameters.length) = some 1 := by decide +kernel
theorem kc_SW_stopper : Cond.code y_SW_stopper b_SW_stopper 1 (some .int) ∈ sw_words := List.mem_filter.mpr ⟨List.mem_append_right _ (List.mem_of_getElem? (i := 367) rfl), rfl⟩
abbrev w_SW_stopper : List Cond := .code y_SW_stopper b_SW_stopper 1 (some .int) :: sw_words
theorem yd_SW_stopper : y_SW_stopper.cls ≠ "java/lang/invoke/MethodHandle" ∧ y_SW_stopper.cls ≠ "java/lang/invoke/VarHandle" ∧ (parseMethodDescriptor y_SW_stopper.desc).map (fun d => d.parameters.length) = some 0 := by decide +kernel
theorem kc_SW_walker : Cond.code y_SW_walker b_SW_walker 2 (some .int) ∈ sw_words := List.mem_filter.mpr ⟨List.mem_append_right _ (List.mem_of_getElem? (i := 371) rfl), rfl⟩
abbrev w_SW_walker : List Cond := .code y_SW_walker b_SW_walker 2 (some .int) :: sw_words
theorem yd_SW_walker : y_SW_walker.cls ≠ "java/lang/invoke/MethodHandle" ∧ y_SW_walker.cls ≠ "java/lang/invoke/VarHandle" ∧ (parseMethodDescriptor y_SW_walker.desc).map (fun d => d.parameters.length) = some 1 := by decide +kernel
theorem kc_SW_look : Cond.code y_SW_look b_SW_look 2 (some .int) ∈ sw_words := List.mem_filter.mpr ⟨List.mem_append_right _ (List.mem_of_getElem? (i := 376) rfl), rfl⟩
abbrev w_SW_look : List Cond := .code y_SW_look b_SW_look 2 (some .int) :: sw_words
theorem yd_SW_look : y_SW_look.cls ≠ "java/lang/invoke/MethodHandle" ∧ y_SW_look.cls ≠ "java/lang/invoke/VarHandle" ∧ (parseMethodDescriptor y_SW_look.desc).map (fun d => d.parameters.length) = some 1 := by decide +kernel
theorem kc_SW_returnToOrigin : Cond.code y_SW_returnToOrigin b_SW_returnToOrigin 1 none ∈ sw_words := List.mem_filter.mpr ⟨List.mem_append_right _ (List.mem_of_getElem? (i := 278) rfl), rfl⟩
abbrev w_SW_returnToOrigin : List Cond := .code y_SW_returnToOrigin b_SW_returnToOrigin 1 none :: sw_words
theorem yd_SW_returnToOrigin : y_SW_returnToOrigin.cls ≠ "java/lang/invoke/MethodHandle" ∧ y_SW_returnToOrigin.cls ≠ "java/lang/invoke/VarHandle" ∧ (parseMethodDescriptor y_SW_returnToOrigin.desc).map (fun d => d.parameters.length) = some 0 := by decide +kernel
theorem kc_SW_start : Cond.code y_SW_start b_SW_start 5 (some .boolean) ∈ sw_words := List.mem_filter.mpr ⟨List.mem_append_right _ (List.mem_of_getElem? (i := 271) rfl), rfl⟩
abbrev w_SW_start : List Cond := .code y_SW_start b_SW_start 5 (some .boolean) :: sw_words
theorem yd_SW_start : y_SW_start.cls ≠ "java/lang/invoke/MethodHandle" ∧ y_SW_start.cls ≠ "java/lang/invoke/VarHandle" ∧ (parseMethodDescriptor y_SW_start.desc).map (fun d => d.parameters.length) = some 4 := by decide +kernel
theorem kc_SW_build : Cond.code y_SW_build b_SW_build 2 (some .int) ∈ sw_words := List.mem_filter.mpr ⟨List.mem_append_right _ (List.mem_of_getElem? (i := 224) rfl), rfl⟩
abbrev w_SW_build : List Cond := .code y_SW_build b_SW_build 2 (some .int) :: sw_words
theorem yd_SW_build : y_SW_build.cls ≠ "java/lang/invoke/MethodHandle" ∧ y_SW_build.cls ≠ "java/lang/invoke/VarHandle" ∧ (parseMethodDescriptor y_SW_build.desc).map (fun d => d.parameters.length) = some 0 := by decide +kernel
theorem kc_SW_walk : Cond.code y_SW_walk b_SW_walk 8 (some .int) ∈ sw_words := List.mem_filter.mpr ⟨List.mem_append_right _ (List.mem_of_getElem? (i := 309) rfl), rfl⟩
abbrev w_SW_walk : List Cond := .code y_SW_walk b_SW_walk 8 (some .int) :: sw_words
theorem yd_SW_walk : y_SW_walk.cls ≠ "java/lang/invoke/MethodHandle" ∧ y_SW_walk.cls ≠ "java/lang/invoke/VarHandle" ∧ (parseMethodDescriptor y_SW_walk.desc).map (fun d => d.parameters.length) = some 3 := by decide +kernel
theorem kc_SW_step : Cond.code y_SW_step b_SW_step 4 (some .int) ∈ sw_words := List.mem_filter.mpr ⟨List.mem_append_right _ (List.mem_of_getElem? (i := 359) rfl), rfl⟩
abbrev w_SW_step : List Cond := .code y_SW_step b_SW_step 4 (some .int) :: sw_words
theorem yd_SW_step : y_SW_step.cls ≠ "java/lang/invoke/MethodHandle" ∧ y_SW_step.cls ≠ "java/lang/invoke/VarHandle" ∧ (parseMethodDescriptor y_SW_step.desc).map (fun d => d.parameters.length) = some 3 := by decide +kernel
theorem kc_SW_play : Cond.code y_SW_play b_SW_play 4 (some .int) ∈ sw_words := List.mem_filter.mpr ⟨List.mem_append_right _ (List.mem_of_getElem? (i := 305) rfl), rfl⟩
abbrev w_SW_play : List Cond := .code y_SW_play b_SW_play 4 (some .int) :: sw_words
theorem yd_SW_play : y_SW_play.cls ≠ "java/lang/invoke/MethodHandle" ∧ y_SW_play.cls ≠ "java/lang/invoke/VarHandle" ∧ (parseMethodDescriptor y_SW_play.desc).map (fun d => d.parameters.length) = some 1 := by decide +kernel
theorem kc_objectInit : Cond.code objectInit ⟨#[0xb1]⟩ 1 none ∈ sw_words := List.mem_filter.mpr ⟨List.mem_append_right _ (List.mem_of_getElem? (i := 16) rfl), rfl⟩
theorem kc_Math_max : Cond.code Lib.Math.max.name Lib.Math.max.code 2 (some .int) ∈ sw_words := List.mem_filter.mpr ⟨List.mem_append_right _ (List.mem_of_getElem? (i := 245) rfl), rfl⟩
theorem kc_Math_min : Cond.code Lib.Math.min.name Lib.Math.min.code 2 (some .int) ∈ sw_words := List.mem_filter.mpr ⟨List.mem_append_right _ (List.mem_of_getElem? (i := 248) rfl), rfl⟩
theorem kc_Math_abs : Cond.code Lib.Math.abs.name Lib.Math.abs.code 1 (some .int) ∈ sw_words := List.mem_filter.mpr ⟨List.mem_append_right _ (List.mem_of_getElem? (i := 343) rfl), rfl⟩
