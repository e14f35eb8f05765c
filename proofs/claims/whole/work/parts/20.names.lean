abbrev b_Mo_init : ByteArray := prog_7_method_1_code
def y_Mo_init : MethodName := ⟨R_Mo, "<init>", "()V"⟩
abbrev b_Mo_isWithin : ByteArray := prog_7_method_3_code
def y_Mo_isWithin : MethodName := ⟨R_Mo, "isWithin", "(II)Z"⟩
abbrev b_Mo_vertex : ByteArray := prog_7_method_4_code
def y_Mo_vertex : MethodName := ⟨R_Mo, "vertex", "(II)I"⟩
abbrev b_Mo_sector : ByteArray := prog_7_method_5_code
def y_Mo_sector : MethodName := ⟨R_Mo, "sector", "(II)I"⟩
abbrev b_Mo_wall : ByteArray := prog_7_method_6_code
def y_Mo_wall : MethodName := ⟨R_Mo, "wall", "(IIII)I"⟩
abbrev b_Mo_drop : ByteArray := prog_7_method_7_code
def y_Mo_drop : MethodName := ⟨R_Mo, "drop", "()Z"⟩
abbrev b_Mo_clear : ByteArray := prog_7_method_8_code
def y_Mo_clear : MethodName := ⟨R_Mo, "clear", "()V"⟩
abbrev b_Mo_side : ByteArray := prog_7_method_9_code
def y_Mo_side : MethodName := ⟨R_Mo, "side", "(III)I"⟩
abbrev b_Mo_isBetween : ByteArray := prog_7_method_10_code
def y_Mo_isBetween : MethodName := ⟨R_Mo, "isBetween", "(III)Z"⟩
abbrev b_Mo_isIn : ByteArray := prog_7_method_11_code
def y_Mo_isIn : MethodName := ⟨R_Mo, "isIn", "(II)Z"⟩
abbrev b_Mo_clash : ByteArray := prog_7_method_12_code
def y_Mo_clash : MethodName := ⟨R_Mo, "clash", "(II)Z"⟩
abbrev b_Mo_build : ByteArray := prog_7_method_13_code
def y_Mo_build : MethodName := ⟨R_Mo, "build", "()I"⟩
abbrev b_Mo_start : ByteArray := prog_7_method_14_code
def y_Mo_start : MethodName := ⟨R_Mo, "start", "(IIII)Z"⟩
abbrev b_Mo_restart : ByteArray := prog_7_method_15_code
def y_Mo_restart : MethodName := ⟨R_Mo, "restart", "()V"⟩
abbrev b_Mo_isInput : ByteArray := prog_7_method_16_code
def y_Mo_isInput : MethodName := ⟨R_Mo, "isInput", "(III)Z"⟩
abbrev b_Mo_input : ByteArray := prog_7_method_17_code
def y_Mo_input : MethodName := ⟨R_Mo, "input", "(III)I"⟩
abbrev b_Mo_undo : ByteArray := prog_7_method_18_code
def y_Mo_undo : MethodName := ⟨R_Mo, "undo", "(I)Z"⟩
abbrev b_Mo_k : ByteArray := prog_7_method_19_code
def y_Mo_k : MethodName := ⟨R_Mo, "k", "(I)I"⟩
abbrev b_Mo_c : ByteArray := prog_7_method_20_code
def y_Mo_c : MethodName := ⟨R_Mo, "c", "(I)I"⟩
abbrev b_Mo_s : ByteArray := prog_7_method_21_code
def y_Mo_s : MethodName := ⟨R_Mo, "s", "(I)I"⟩
abbrev b_Mo_part : ByteArray := prog_7_method_22_code
def y_Mo_part : MethodName := ⟨R_Mo, "part", "(I)I"⟩
abbrev b_Mo_cross : ByteArray := prog_7_method_23_code
def y_Mo_cross : MethodName := ⟨R_Mo, "cross", "(II)V"⟩
abbrev b_Mo_add : ByteArray := prog_7_method_24_code
def y_Mo_add : MethodName := ⟨R_Mo, "add", "(IJJ)V"⟩
abbrev b_Mo_isStop : ByteArray := prog_7_method_25_code
def y_Mo_isStop : MethodName := ⟨R_Mo, "isStop", "(III)Z"⟩
abbrev b_Mo_go : ByteArray := prog_7_method_26_code
def y_Mo_go : MethodName := ⟨R_Mo, "go", "(III)I"⟩
abbrev b_Mo_play : ByteArray := prog_7_method_27_code
def y_Mo_play : MethodName := ⟨R_Mo, "play", "(I)I"⟩
abbrev b_Mo_step : ByteArray := prog_7_method_28_code
def y_Mo_step : MethodName := ⟨R_Mo, "step", "(III)I"⟩
abbrev b_Mo_crossed : ByteArray := prog_7_method_29_code
def y_Mo_crossed : MethodName := ⟨R_Mo, "crossed", "(I)I"⟩
abbrev b_Mo_stopper : ByteArray := prog_7_method_30_code
def y_Mo_stopper : MethodName := ⟨R_Mo, "stopper", "()I"⟩
abbrev b_Mo_walker : ByteArray := prog_7_method_31_code
def y_Mo_walker : MethodName := ⟨R_Mo, "walker", "(I)I"⟩
abbrev b_Mo_look : ByteArray := prog_7_method_32_code
def y_Mo_look : MethodName := ⟨R_Mo, "look", "(I)I"⟩
set_option maxRecDepth 20000 in
theorem kc_Mo_init : Cond.code y_Mo_init b_Mo_init 1 none ∈ sw_words := List.mem_filter.mpr ⟨List.mem_append_right _ (List.mem_of_getElem? (i := 381) rfl), rfl⟩
abbrev w_Mo_init : List Cond := .code y_Mo_init b_Mo_init 1 none :: sw_words
theorem yd_Mo_init : y_Mo_init.cls ≠ "java/lang/invoke/MethodHandle" ∧ y_Mo_init.cls ≠ "java/lang/invoke/VarHandle" ∧ (parseMethodDescriptor y_Mo_init.desc).map (fun d => d.parameters.length) = some 0 := by decide +kernel
set_option maxRecDepth 20000 in
theorem kc_Mo_isWithin : Cond.code y_Mo_isWithin b_Mo_isWithin 2 (some .boolean) ∈ sw_words := List.mem_filter.mpr ⟨List.mem_append_right _ (List.mem_of_getElem? (i := 499) rfl), rfl⟩
abbrev w_Mo_isWithin : List Cond := .code y_Mo_isWithin b_Mo_isWithin 2 (some .boolean) :: sw_words
theorem yd_Mo_isWithin : y_Mo_isWithin.cls ≠ "java/lang/invoke/MethodHandle" ∧ y_Mo_isWithin.cls ≠ "java/lang/invoke/VarHandle" ∧ (parseMethodDescriptor y_Mo_isWithin.desc).map (fun d => d.parameters.length) = some 2 := by decide +kernel
set_option maxRecDepth 20000 in
theorem kc_Mo_vertex : Cond.code y_Mo_vertex b_Mo_vertex 5 (some .int) ∈ sw_words := List.mem_filter.mpr ⟨List.mem_append_right _ (List.mem_of_getElem? (i := 496) rfl), rfl⟩
abbrev w_Mo_vertex : List Cond := .code y_Mo_vertex b_Mo_vertex 5 (some .int) :: sw_words
theorem yd_Mo_vertex : y_Mo_vertex.cls ≠ "java/lang/invoke/MethodHandle" ∧ y_Mo_vertex.cls ≠ "java/lang/invoke/VarHandle" ∧ (parseMethodDescriptor y_Mo_vertex.desc).map (fun d => d.parameters.length) = some 2 := by decide +kernel
set_option maxRecDepth 20000 in
theorem kc_Mo_sector : Cond.code y_Mo_sector b_Mo_sector 3 (some .int) ∈ sw_words := List.mem_filter.mpr ⟨List.mem_append_right _ (List.mem_of_getElem? (i := 503) rfl), rfl⟩
abbrev w_Mo_sector : List Cond := .code y_Mo_sector b_Mo_sector 3 (some .int) :: sw_words
theorem yd_Mo_sector : y_Mo_sector.cls ≠ "java/lang/invoke/MethodHandle" ∧ y_Mo_sector.cls ≠ "java/lang/invoke/VarHandle" ∧ (parseMethodDescriptor y_Mo_sector.desc).map (fun d => d.parameters.length) = some 2 := by decide +kernel
set_option maxRecDepth 20000 in
theorem kc_Mo_wall : Cond.code y_Mo_wall b_Mo_wall 6 (some .int) ∈ sw_words := List.mem_filter.mpr ⟨List.mem_append_right _ (List.mem_of_getElem? (i := 507) rfl), rfl⟩
abbrev w_Mo_wall : List Cond := .code y_Mo_wall b_Mo_wall 6 (some .int) :: sw_words
theorem yd_Mo_wall : y_Mo_wall.cls ≠ "java/lang/invoke/MethodHandle" ∧ y_Mo_wall.cls ≠ "java/lang/invoke/VarHandle" ∧ (parseMethodDescriptor y_Mo_wall.desc).map (fun d => d.parameters.length) = some 4 := by decide +kernel
set_option maxRecDepth 20000 in
theorem kc_Mo_drop : Cond.code y_Mo_drop b_Mo_drop 1 (some .boolean) ∈ sw_words := List.mem_filter.mpr ⟨List.mem_append_right _ (List.mem_of_getElem? (i := 511) rfl), rfl⟩
abbrev w_Mo_drop : List Cond := .code y_Mo_drop b_Mo_drop 1 (some .boolean) :: sw_words
theorem yd_Mo_drop : y_Mo_drop.cls ≠ "java/lang/invoke/MethodHandle" ∧ y_Mo_drop.cls ≠ "java/lang/invoke/VarHandle" ∧ (parseMethodDescriptor y_Mo_drop.desc).map (fun d => d.parameters.length) = some 0 := by decide +kernel
set_option maxRecDepth 20000 in
theorem kc_Mo_clear : Cond.code y_Mo_clear b_Mo_clear 1 none ∈ sw_words := List.mem_filter.mpr ⟨List.mem_append_right _ (List.mem_of_getElem? (i := 515) rfl), rfl⟩
abbrev w_Mo_clear : List Cond := .code y_Mo_clear b_Mo_clear 1 none :: sw_words
theorem yd_Mo_clear : y_Mo_clear.cls ≠ "java/lang/invoke/MethodHandle" ∧ y_Mo_clear.cls ≠ "java/lang/invoke/VarHandle" ∧ (parseMethodDescriptor y_Mo_clear.desc).map (fun d => d.parameters.length) = some 0 := by decide +kernel
set_option maxRecDepth 20000 in
theorem kc_Mo_side : Cond.code y_Mo_side b_Mo_side 6 (some .int) ∈ sw_words := List.mem_filter.mpr ⟨List.mem_append_right _ (List.mem_of_getElem? (i := 531) rfl), rfl⟩
abbrev w_Mo_side : List Cond := .code y_Mo_side b_Mo_side 6 (some .int) :: sw_words
theorem yd_Mo_side : y_Mo_side.cls ≠ "java/lang/invoke/MethodHandle" ∧ y_Mo_side.cls ≠ "java/lang/invoke/VarHandle" ∧ (parseMethodDescriptor y_Mo_side.desc).map (fun d => d.parameters.length) = some 3 := by decide +kernel
set_option maxRecDepth 20000 in
theorem kc_Mo_isBetween : Cond.code y_Mo_isBetween b_Mo_isBetween 3 (some .boolean) ∈ sw_words := List.mem_filter.mpr ⟨List.mem_append_right _ (List.mem_of_getElem? (i := 534) rfl), rfl⟩
abbrev w_Mo_isBetween : List Cond := .code y_Mo_isBetween b_Mo_isBetween 3 (some .boolean) :: sw_words
theorem yd_Mo_isBetween : y_Mo_isBetween.cls ≠ "java/lang/invoke/MethodHandle" ∧ y_Mo_isBetween.cls ≠ "java/lang/invoke/VarHandle" ∧ (parseMethodDescriptor y_Mo_isBetween.desc).map (fun d => d.parameters.length) = some 3 := by decide +kernel
set_option maxRecDepth 20000 in
theorem kc_Mo_isIn : Cond.code y_Mo_isIn b_Mo_isIn 5 (some .boolean) ∈ sw_words := List.mem_filter.mpr ⟨List.mem_append_right _ (List.mem_of_getElem? (i := 527) rfl), rfl⟩
abbrev w_Mo_isIn : List Cond := .code y_Mo_isIn b_Mo_isIn 5 (some .boolean) :: sw_words
theorem yd_Mo_isIn : y_Mo_isIn.cls ≠ "java/lang/invoke/MethodHandle" ∧ y_Mo_isIn.cls ≠ "java/lang/invoke/VarHandle" ∧ (parseMethodDescriptor y_Mo_isIn.desc).map (fun d => d.parameters.length) = some 2 := by decide +kernel
set_option maxRecDepth 20000 in
theorem kc_Mo_clash : Cond.code y_Mo_clash b_Mo_clash 7 (some .boolean) ∈ sw_words := List.mem_filter.mpr ⟨List.mem_append_right _ (List.mem_of_getElem? (i := 523) rfl), rfl⟩
abbrev w_Mo_clash : List Cond := .code y_Mo_clash b_Mo_clash 7 (some .boolean) :: sw_words
theorem yd_Mo_clash : y_Mo_clash.cls ≠ "java/lang/invoke/MethodHandle" ∧ y_Mo_clash.cls ≠ "java/lang/invoke/VarHandle" ∧ (parseMethodDescriptor y_Mo_clash.desc).map (fun d => d.parameters.length) = some 2 := by decide +kernel
set_option maxRecDepth 20000 in
theorem kc_Mo_build : Cond.code y_Mo_build b_Mo_build 3 (some .int) ∈ sw_words := List.mem_filter.mpr ⟨List.mem_append_right _ (List.mem_of_getElem? (i := 519) rfl), rfl⟩
abbrev w_Mo_build : List Cond := .code y_Mo_build b_Mo_build 3 (some .int) :: sw_words
theorem yd_Mo_build : y_Mo_build.cls ≠ "java/lang/invoke/MethodHandle" ∧ y_Mo_build.cls ≠ "java/lang/invoke/VarHandle" ∧ (parseMethodDescriptor y_Mo_build.desc).map (fun d => d.parameters.length) = some 0 := by decide +kernel
set_option maxRecDepth 20000 in
theorem kc_Mo_start : Cond.code y_Mo_start b_Mo_start 5 (some .boolean) ∈ sw_words := List.mem_filter.mpr ⟨List.mem_append_right _ (List.mem_of_getElem? (i := 538) rfl), rfl⟩
abbrev w_Mo_start : List Cond := .code y_Mo_start b_Mo_start 5 (some .boolean) :: sw_words
theorem yd_Mo_start : y_Mo_start.cls ≠ "java/lang/invoke/MethodHandle" ∧ y_Mo_start.cls ≠ "java/lang/invoke/VarHandle" ∧ (parseMethodDescriptor y_Mo_start.desc).map (fun d => d.parameters.length) = some 4 := by decide +kernel
set_option maxRecDepth 20000 in
theorem kc_Mo_restart : Cond.code y_Mo_restart b_Mo_restart 2 none ∈ sw_words := List.mem_filter.mpr ⟨List.mem_append_right _ (List.mem_of_getElem? (i := 542) rfl), rfl⟩
abbrev w_Mo_restart : List Cond := .code y_Mo_restart b_Mo_restart 2 none :: sw_words
theorem yd_Mo_restart : y_Mo_restart.cls ≠ "java/lang/invoke/MethodHandle" ∧ y_Mo_restart.cls ≠ "java/lang/invoke/VarHandle" ∧ (parseMethodDescriptor y_Mo_restart.desc).map (fun d => d.parameters.length) = some 0 := by decide +kernel
set_option maxRecDepth 20000 in
theorem kc_Mo_isInput : Cond.code y_Mo_isInput b_Mo_isInput 3 (some .boolean) ∈ sw_words := List.mem_filter.mpr ⟨List.mem_append_right _ (List.mem_of_getElem? (i := 549) rfl), rfl⟩
abbrev w_Mo_isInput : List Cond := .code y_Mo_isInput b_Mo_isInput 3 (some .boolean) :: sw_words
theorem yd_Mo_isInput : y_Mo_isInput.cls ≠ "java/lang/invoke/MethodHandle" ∧ y_Mo_isInput.cls ≠ "java/lang/invoke/VarHandle" ∧ (parseMethodDescriptor y_Mo_isInput.desc).map (fun d => d.parameters.length) = some 3 := by decide +kernel
set_option maxRecDepth 20000 in
theorem kc_Mo_input : Cond.code y_Mo_input b_Mo_input 4 (some .int) ∈ sw_words := List.mem_filter.mpr ⟨List.mem_append_right _ (List.mem_of_getElem? (i := 546) rfl), rfl⟩
abbrev w_Mo_input : List Cond := .code y_Mo_input b_Mo_input 4 (some .int) :: sw_words
theorem yd_Mo_input : y_Mo_input.cls ≠ "java/lang/invoke/MethodHandle" ∧ y_Mo_input.cls ≠ "java/lang/invoke/VarHandle" ∧ (parseMethodDescriptor y_Mo_input.desc).map (fun d => d.parameters.length) = some 3 := by decide +kernel
set_option maxRecDepth 20000 in
theorem kc_Mo_undo : Cond.code y_Mo_undo b_Mo_undo 2 (some .boolean) ∈ sw_words := List.mem_filter.mpr ⟨List.mem_append_right _ (List.mem_of_getElem? (i := 553) rfl), rfl⟩
abbrev w_Mo_undo : List Cond := .code y_Mo_undo b_Mo_undo 2 (some .boolean) :: sw_words
theorem yd_Mo_undo : y_Mo_undo.cls ≠ "java/lang/invoke/MethodHandle" ∧ y_Mo_undo.cls ≠ "java/lang/invoke/VarHandle" ∧ (parseMethodDescriptor y_Mo_undo.desc).map (fun d => d.parameters.length) = some 1 := by decide +kernel
set_option maxRecDepth 20000 in
theorem kc_Mo_k : Cond.code y_Mo_k b_Mo_k 1 (some .int) ∈ sw_words := List.mem_filter.mpr ⟨List.mem_append_right _ (List.mem_of_getElem? (i := 567) rfl), rfl⟩
abbrev w_Mo_k : List Cond := .code y_Mo_k b_Mo_k 1 (some .int) :: sw_words
theorem yd_Mo_k : y_Mo_k.cls ≠ "java/lang/invoke/MethodHandle" ∧ y_Mo_k.cls ≠ "java/lang/invoke/VarHandle" ∧ (parseMethodDescriptor y_Mo_k.desc).map (fun d => d.parameters.length) = some 1 := by decide +kernel
set_option maxRecDepth 20000 in
theorem kc_Mo_c : Cond.code y_Mo_c b_Mo_c 1 (some .int) ∈ sw_words := List.mem_filter.mpr ⟨List.mem_append_right _ (List.mem_of_getElem? (i := 564) rfl), rfl⟩
abbrev w_Mo_c : List Cond := .code y_Mo_c b_Mo_c 1 (some .int) :: sw_words
theorem yd_Mo_c : y_Mo_c.cls ≠ "java/lang/invoke/MethodHandle" ∧ y_Mo_c.cls ≠ "java/lang/invoke/VarHandle" ∧ (parseMethodDescriptor y_Mo_c.desc).map (fun d => d.parameters.length) = some 1 := by decide +kernel
set_option maxRecDepth 20000 in
theorem kc_Mo_s : Cond.code y_Mo_s b_Mo_s 1 (some .int) ∈ sw_words := List.mem_filter.mpr ⟨List.mem_append_right _ (List.mem_of_getElem? (i := 570) rfl), rfl⟩
abbrev w_Mo_s : List Cond := .code y_Mo_s b_Mo_s 1 (some .int) :: sw_words
theorem yd_Mo_s : y_Mo_s.cls ≠ "java/lang/invoke/MethodHandle" ∧ y_Mo_s.cls ≠ "java/lang/invoke/VarHandle" ∧ (parseMethodDescriptor y_Mo_s.desc).map (fun d => d.parameters.length) = some 1 := by decide +kernel
set_option maxRecDepth 20000 in
theorem kc_Mo_part : Cond.code y_Mo_part b_Mo_part 2 (some .int) ∈ sw_words := List.mem_filter.mpr ⟨List.mem_append_right _ (List.mem_of_getElem? (i := 573) rfl), rfl⟩
abbrev w_Mo_part : List Cond := .code y_Mo_part b_Mo_part 2 (some .int) :: sw_words
theorem yd_Mo_part : y_Mo_part.cls ≠ "java/lang/invoke/MethodHandle" ∧ y_Mo_part.cls ≠ "java/lang/invoke/VarHandle" ∧ (parseMethodDescriptor y_Mo_part.desc).map (fun d => d.parameters.length) = some 1 := by decide +kernel
set_option maxRecDepth 20000 in
theorem kc_Mo_cross : Cond.code y_Mo_cross b_Mo_cross 16 none ∈ sw_words := List.mem_filter.mpr ⟨List.mem_append_right _ (List.mem_of_getElem? (i := 577) rfl), rfl⟩
abbrev w_Mo_cross : List Cond := .code y_Mo_cross b_Mo_cross 16 none :: sw_words
theorem yd_Mo_cross : y_Mo_cross.cls ≠ "java/lang/invoke/MethodHandle" ∧ y_Mo_cross.cls ≠ "java/lang/invoke/VarHandle" ∧ (parseMethodDescriptor y_Mo_cross.desc).map (fun d => d.parameters.length) = some 2 := by decide +kernel
set_option maxRecDepth 20000 in
theorem kc_Mo_add : Cond.code y_Mo_add b_Mo_add 7 none ∈ sw_words := List.mem_filter.mpr ⟨List.mem_append_right _ (List.mem_of_getElem? (i := 581) rfl), rfl⟩
abbrev w_Mo_add : List Cond := .code y_Mo_add b_Mo_add 7 none :: sw_words
theorem yd_Mo_add : y_Mo_add.cls ≠ "java/lang/invoke/MethodHandle" ∧ y_Mo_add.cls ≠ "java/lang/invoke/VarHandle" ∧ (parseMethodDescriptor y_Mo_add.desc).map (fun d => d.parameters.length) = some 3 := by decide +kernel
set_option maxRecDepth 20000 in
theorem kc_Mo_isStop : Cond.code y_Mo_isStop b_Mo_isStop 6 (some .boolean) ∈ sw_words := List.mem_filter.mpr ⟨List.mem_append_right _ (List.mem_of_getElem? (i := 585) rfl), rfl⟩
abbrev w_Mo_isStop : List Cond := .code y_Mo_isStop b_Mo_isStop 6 (some .boolean) :: sw_words
theorem yd_Mo_isStop : y_Mo_isStop.cls ≠ "java/lang/invoke/MethodHandle" ∧ y_Mo_isStop.cls ≠ "java/lang/invoke/VarHandle" ∧ (parseMethodDescriptor y_Mo_isStop.desc).map (fun d => d.parameters.length) = some 3 := by decide +kernel
set_option maxRecDepth 20000 in
theorem kc_Mo_go : Cond.code y_Mo_go b_Mo_go 12 (some .int) ∈ sw_words := List.mem_filter.mpr ⟨List.mem_append_right _ (List.mem_of_getElem? (i := 561) rfl), rfl⟩
abbrev w_Mo_go : List Cond := .code y_Mo_go b_Mo_go 12 (some .int) :: sw_words
theorem yd_Mo_go : y_Mo_go.cls ≠ "java/lang/invoke/MethodHandle" ∧ y_Mo_go.cls ≠ "java/lang/invoke/VarHandle" ∧ (parseMethodDescriptor y_Mo_go.desc).map (fun d => d.parameters.length) = some 3 := by decide +kernel
set_option maxRecDepth 20000 in
theorem kc_Mo_play : Cond.code y_Mo_play b_Mo_play 4 (some .int) ∈ sw_words := List.mem_filter.mpr ⟨List.mem_append_right _ (List.mem_of_getElem? (i := 557) rfl), rfl⟩
abbrev w_Mo_play : List Cond := .code y_Mo_play b_Mo_play 4 (some .int) :: sw_words
theorem yd_Mo_play : y_Mo_play.cls ≠ "java/lang/invoke/MethodHandle" ∧ y_Mo_play.cls ≠ "java/lang/invoke/VarHandle" ∧ (parseMethodDescriptor y_Mo_play.desc).map (fun d => d.parameters.length) = some 1 := by decide +kernel
set_option maxRecDepth 20000 in
theorem kc_Mo_step : Cond.code y_Mo_step b_Mo_step 4 (some .int) ∈ sw_words := List.mem_filter.mpr ⟨List.mem_append_right _ (List.mem_of_getElem? (i := 589) rfl), rfl⟩
abbrev w_Mo_step : List Cond := .code y_Mo_step b_Mo_step 4 (some .int) :: sw_words
theorem yd_Mo_step : y_Mo_step.cls ≠ "java/lang/invoke/MethodHandle" ∧ y_Mo_step.cls ≠ "java/lang/invoke/VarHandle" ∧ (parseMethodDescriptor y_Mo_step.desc).map (fun d => d.parameters.length) = some 3 := by decide +kernel
set_option maxRecDepth 20000 in
theorem kc_Mo_crossed : Cond.code y_Mo_crossed b_Mo_crossed 2 (some .int) ∈ sw_words := List.mem_filter.mpr ⟨List.mem_append_right _ (List.mem_of_getElem? (i := 593) rfl), rfl⟩
abbrev w_Mo_crossed : List Cond := .code y_Mo_crossed b_Mo_crossed 2 (some .int) :: sw_words
theorem yd_Mo_crossed : y_Mo_crossed.cls ≠ "java/lang/invoke/MethodHandle" ∧ y_Mo_crossed.cls ≠ "java/lang/invoke/VarHandle" ∧ (parseMethodDescriptor y_Mo_crossed.desc).map (fun d => d.parameters.length) = some 1 := by decide +kernel
set_option maxRecDepth 20000 in
theorem kc_Mo_stopper : Cond.code y_Mo_stopper b_Mo_stopper 1 (some .int) ∈ sw_words := List.mem_filter.mpr ⟨List.mem_append_right _ (List.mem_of_getElem? (i := 597) rfl), rfl⟩
abbrev w_Mo_stopper : List Cond := .code y_Mo_stopper b_Mo_stopper 1 (some .int) :: sw_words
theorem yd_Mo_stopper : y_Mo_stopper.cls ≠ "java/lang/invoke/MethodHandle" ∧ y_Mo_stopper.cls ≠ "java/lang/invoke/VarHandle" ∧ (parseMethodDescriptor y_Mo_stopper.desc).map (fun d => d.parameters.length) = some 0 := by decide +kernel
set_option maxRecDepth 20000 in
theorem kc_Mo_walker : Cond.code y_Mo_walker b_Mo_walker 2 (some .int) ∈ sw_words := List.mem_filter.mpr ⟨List.mem_append_right _ (List.mem_of_getElem? (i := 601) rfl), rfl⟩
abbrev w_Mo_walker : List Cond := .code y_Mo_walker b_Mo_walker 2 (some .int) :: sw_words
theorem yd_Mo_walker : y_Mo_walker.cls ≠ "java/lang/invoke/MethodHandle" ∧ y_Mo_walker.cls ≠ "java/lang/invoke/VarHandle" ∧ (parseMethodDescriptor y_Mo_walker.desc).map (fun d => d.parameters.length) = some 1 := by decide +kernel
set_option maxRecDepth 20000 in
theorem kc_Mo_look : Cond.code y_Mo_look b_Mo_look 2 (some .int) ∈ sw_words := List.mem_filter.mpr ⟨List.mem_append_right _ (List.mem_of_getElem? (i := 606) rfl), rfl⟩
abbrev w_Mo_look : List Cond := .code y_Mo_look b_Mo_look 2 (some .int) :: sw_words
theorem yd_Mo_look : y_Mo_look.cls ≠ "java/lang/invoke/MethodHandle" ∧ y_Mo_look.cls ≠ "java/lang/invoke/VarHandle" ∧ (parseMethodDescriptor y_Mo_look.desc).map (fun d => d.parameters.length) = some 1 := by decide +kernel
theorem kw_82e72072 : Cond.initialized R_Mo ∈ sw_words := List.mem_filter.mpr ⟨List.mem_append_right _ (List.mem_of_getElem? (i := 6) (by decide +kernel)), by decide +kernel⟩
theorem kw_aa0a1934 : Cond.methodLink R_Mo 90 y_Mo_isWithin ∈ sw_words := List.mem_filter.mpr ⟨List.mem_append_right _ (List.mem_of_getElem? (i := 497) (by decide +kernel)), by decide +kernel⟩
theorem kw_59824ec7 : Cond.static y_Mo_isWithin ∈ sw_words := List.mem_filter.mpr ⟨List.mem_append_right _ (List.mem_of_getElem? (i := 498) (by decide +kernel)), by decide +kernel⟩
theorem kw_38168dc1 : Cond.fieldLink R_Mo 87 "SectorWalkModel" "thrown" "I" ∈ sw_words := List.mem_filter.mpr ⟨List.mem_append_right _ (List.mem_of_getElem? (i := 383) (by decide +kernel)), by decide +kernel⟩
theorem kw_c5d0a9ee : Cond.fieldLink R_Mo 94 "SectorWalkModel" "vertices" "I" ∈ sw_words := List.mem_filter.mpr ⟨List.mem_append_right _ (List.mem_of_getElem? (i := 386) (by decide +kernel)), by decide +kernel⟩
theorem kw_8c268fd5 : Cond.fieldLink R_Mo 7 "SectorWalkModel" "xs" "[I" ∈ sw_words := List.mem_filter.mpr ⟨List.mem_append_right _ (List.mem_of_getElem? (i := 384) (by decide +kernel)), by decide +kernel⟩
theorem kw_c43ee8d8 : Cond.fieldLink R_Mo 13 "SectorWalkModel" "ys" "[I" ∈ sw_words := List.mem_filter.mpr ⟨List.mem_append_right _ (List.mem_of_getElem? (i := 385) (by decide +kernel)), by decide +kernel⟩
theorem kw_4cfe8336 : Cond.fieldLink R_Mo 97 "SectorWalkModel" "sectors" "I" ∈ sw_words := List.mem_filter.mpr ⟨List.mem_append_right _ (List.mem_of_getElem? (i := 389) (by decide +kernel)), by decide +kernel⟩
theorem kw_53c23857 : Cond.fieldLink R_Mo 16 "SectorWalkModel" "floors" "[I" ∈ sw_words := List.mem_filter.mpr ⟨List.mem_append_right _ (List.mem_of_getElem? (i := 387) (by decide +kernel)), by decide +kernel⟩
theorem kw_1c9bfedb : Cond.fieldLink R_Mo 19 "SectorWalkModel" "ceilings" "[I" ∈ sw_words := List.mem_filter.mpr ⟨List.mem_append_right _ (List.mem_of_getElem? (i := 388) (by decide +kernel)), by decide +kernel⟩
theorem kw_67b13dd9 : Cond.fieldLink R_Mo 100 "SectorWalkModel" "walls" "I" ∈ sw_words := List.mem_filter.mpr ⟨List.mem_append_right _ (List.mem_of_getElem? (i := 394) (by decide +kernel)), by decide +kernel⟩
theorem kw_67c6da3e : Cond.fieldLink R_Mo 22 "SectorWalkModel" "froms" "[I" ∈ sw_words := List.mem_filter.mpr ⟨List.mem_append_right _ (List.mem_of_getElem? (i := 390) (by decide +kernel)), by decide +kernel⟩
theorem kw_f2a9401b : Cond.fieldLink R_Mo 25 "SectorWalkModel" "tos" "[I" ∈ sw_words := List.mem_filter.mpr ⟨List.mem_append_right _ (List.mem_of_getElem? (i := 391) (by decide +kernel)), by decide +kernel⟩
theorem kw_c91adaf7 : Cond.fieldLink R_Mo 28 "SectorWalkModel" "fronts" "[I" ∈ sw_words := List.mem_filter.mpr ⟨List.mem_append_right _ (List.mem_of_getElem? (i := 392) (by decide +kernel)), by decide +kernel⟩
theorem kw_c430f188 : Cond.fieldLink R_Mo 31 "SectorWalkModel" "backs" "[I" ∈ sw_words := List.mem_filter.mpr ⟨List.mem_append_right _ (List.mem_of_getElem? (i := 393) (by decide +kernel)), by decide +kernel⟩
theorem kw_01e412d0 : Cond.methodLink R_Mo 139 y_Mo_isInput ∈ sw_words := List.mem_filter.mpr ⟨List.mem_append_right _ (List.mem_of_getElem? (i := 547) (by decide +kernel)), by decide +kernel⟩
theorem kw_e77d1977 : Cond.static y_Mo_isInput ∈ sw_words := List.mem_filter.mpr ⟨List.mem_append_right _ (List.mem_of_getElem? (i := 548) (by decide +kernel)), by decide +kernel⟩
theorem kw_2fb9fc42 : Cond.fieldLink R_Mo 142 "SectorWalkModel" "inputs" "I" ∈ sw_words := List.mem_filter.mpr ⟨List.mem_append_right _ (List.mem_of_getElem? (i := 413) (by decide +kernel)), by decide +kernel⟩
theorem kw_60dd47c9 : Cond.fieldLink R_Mo 64 "SectorWalkModel" "aheads" "[I" ∈ sw_words := List.mem_filter.mpr ⟨List.mem_append_right _ (List.mem_of_getElem? (i := 410) (by decide +kernel)), by decide +kernel⟩
theorem kw_2a1c100c : Cond.fieldLink R_Mo 67 "SectorWalkModel" "asides" "[I" ∈ sw_words := List.mem_filter.mpr ⟨List.mem_append_right _ (List.mem_of_getElem? (i := 411) (by decide +kernel)), by decide +kernel⟩
theorem kw_757dc0a2 : Cond.fieldLink R_Mo 70 "SectorWalkModel" "turns" "[I" ∈ sw_words := List.mem_filter.mpr ⟨List.mem_append_right _ (List.mem_of_getElem? (i := 412) (by decide +kernel)), by decide +kernel⟩
theorem kw_3969c338 : Cond.fieldLink R_Mo 133 "SectorWalkModel" "many" "I" ∈ sw_words := List.mem_filter.mpr ⟨List.mem_append_right _ (List.mem_of_getElem? (i := 417) (by decide +kernel)), by decide +kernel⟩
theorem kw_7f169faf : Cond.fieldLink R_Mo 73 "SectorWalkModel" "crossed" "[I" ∈ sw_words := List.mem_filter.mpr ⟨List.mem_append_right _ (List.mem_of_getElem? (i := 414) (by decide +kernel)), by decide +kernel⟩
theorem kw_57a06927 : Cond.fieldLink R_Mo 83 "SectorWalkModel" "stopper" "I" ∈ sw_words := List.mem_filter.mpr ⟨List.mem_append_right _ (List.mem_of_getElem? (i := 418) (by decide +kernel)), by decide +kernel⟩
theorem kw_dbb9f3cd : Cond.fieldLink R_Mo 129 "SectorWalkModel" "started" "Z" ∈ sw_words := List.mem_filter.mpr ⟨List.mem_append_right _ (List.mem_of_getElem? (i := 407) (by decide +kernel)), by decide +kernel⟩
theorem kw_0109f2e8 : Cond.constant R_Mo 172 100000 ∈ sw_words := List.mem_filter.mpr ⟨List.mem_append_right _ (List.mem_of_getElem? (i := 602) (by decide +kernel)), by decide +kernel⟩
theorem kw_f5148383 : Cond.fieldLink R_Mo 61 "SectorWalkModel" "now" "[I" ∈ sw_words := List.mem_filter.mpr ⟨List.mem_append_right _ (List.mem_of_getElem? (i := 409) (by decide +kernel)), by decide +kernel⟩
theorem kw_1c6a2527 : Cond.fieldLink R_Mo 126 "SectorWalkModel" "built" "I" ∈ sw_words := List.mem_filter.mpr ⟨List.mem_append_right _ (List.mem_of_getElem? (i := 406) (by decide +kernel)), by decide +kernel⟩
theorem kw_2875c244 : Cond.fieldLink R_Mo 117 "SectorWalkModel" "mapVertices" "I" ∈ sw_words := List.mem_filter.mpr ⟨List.mem_append_right _ (List.mem_of_getElem? (i := 403) (by decide +kernel)), by decide +kernel⟩
theorem kw_0cd0a4aa : Cond.fieldLink R_Mo 120 "SectorWalkModel" "mapSectors" "I" ∈ sw_words := List.mem_filter.mpr ⟨List.mem_append_right _ (List.mem_of_getElem? (i := 404) (by decide +kernel)), by decide +kernel⟩
theorem kw_495afe5c : Cond.fieldLink R_Mo 123 "SectorWalkModel" "mapWalls" "I" ∈ sw_words := List.mem_filter.mpr ⟨List.mem_append_right _ (List.mem_of_getElem? (i := 405) (by decide +kernel)), by decide +kernel⟩
theorem kw_70faa959 : Cond.fieldLink R_Mo 58 "SectorWalkModel" "begin" "[I" ∈ sw_words := List.mem_filter.mpr ⟨List.mem_append_right _ (List.mem_of_getElem? (i := 408) (by decide +kernel)), by decide +kernel⟩
theorem kw_d8d00ef1 : Cond.methodLink R_Mo 145 y_Mo_k ∈ sw_words := List.mem_filter.mpr ⟨List.mem_append_right _ (List.mem_of_getElem? (i := 565) (by decide +kernel)), by decide +kernel⟩
theorem kw_a30fcada : Cond.static y_Mo_k ∈ sw_words := List.mem_filter.mpr ⟨List.mem_append_right _ (List.mem_of_getElem? (i := 566) (by decide +kernel)), by decide +kernel⟩
theorem kw_81a4938c : Cond.methodLink R_Mo 149 y_Mo_c ∈ sw_words := List.mem_filter.mpr ⟨List.mem_append_right _ (List.mem_of_getElem? (i := 562) (by decide +kernel)), by decide +kernel⟩
theorem kw_add442e8 : Cond.static y_Mo_c ∈ sw_words := List.mem_filter.mpr ⟨List.mem_append_right _ (List.mem_of_getElem? (i := 563) (by decide +kernel)), by decide +kernel⟩
theorem kw_56467ae0 : Cond.methodLink R_Mo 103 y_Mo_side ∈ sw_words := List.mem_filter.mpr ⟨List.mem_append_right _ (List.mem_of_getElem? (i := 528) (by decide +kernel)), by decide +kernel⟩
theorem kw_1867c90e : Cond.instanceMethod y_Mo_side ∈ sw_words := List.mem_filter.mpr ⟨List.mem_append_right _ (List.mem_of_getElem? (i := 530) (by decide +kernel)), by decide +kernel⟩
theorem kw_e64fbd0d : Cond.selects R_Mo y_Mo_side y_Mo_side ∈ sw_words := List.mem_filter.mpr ⟨List.mem_append_left _ (List.mem_of_getElem? (i := 13) (by decide +kernel)), by decide +kernel⟩
theorem kw_d86ddaeb : Cond.methodLink R_Mo 107 y_Mo_isBetween ∈ sw_words := List.mem_filter.mpr ⟨List.mem_append_right _ (List.mem_of_getElem? (i := 532) (by decide +kernel)), by decide +kernel⟩
theorem kw_dde162fb : Cond.static y_Mo_isBetween ∈ sw_words := List.mem_filter.mpr ⟨List.mem_append_right _ (List.mem_of_getElem? (i := 533) (by decide +kernel)), by decide +kernel⟩
theorem kw_0c629d74 : Cond.methodLink R_Mo 111 y_Mo_isIn ∈ sw_words := List.mem_filter.mpr ⟨List.mem_append_right _ (List.mem_of_getElem? (i := 524) (by decide +kernel)), by decide +kernel⟩
theorem kw_818adb34 : Cond.instanceMethod y_Mo_isIn ∈ sw_words := List.mem_filter.mpr ⟨List.mem_append_right _ (List.mem_of_getElem? (i := 526) (by decide +kernel)), by decide +kernel⟩
theorem kw_e0c0d46e : Cond.selects R_Mo y_Mo_isIn y_Mo_isIn ∈ sw_words := List.mem_filter.mpr ⟨List.mem_append_left _ (List.mem_of_getElem? (i := 12) (by decide +kernel)), by decide +kernel⟩
theorem kw_4af58c9f : Cond.fieldLink R_Mo 49 "SectorWalkModel" "mapBacks" "[I" ∈ sw_words := List.mem_filter.mpr ⟨List.mem_append_right _ (List.mem_of_getElem? (i := 400) (by decide +kernel)), by decide +kernel⟩
theorem kw_ede0783e : Cond.fieldLink R_Mo 55 "SectorWalkModel" "mapCeilings" "[I" ∈ sw_words := List.mem_filter.mpr ⟨List.mem_append_right _ (List.mem_of_getElem? (i := 402) (by decide +kernel)), by decide +kernel⟩
theorem kw_8df6f597 : Cond.fieldLink R_Mo 52 "SectorWalkModel" "mapFloors" "[I" ∈ sw_words := List.mem_filter.mpr ⟨List.mem_append_right _ (List.mem_of_getElem? (i := 401) (by decide +kernel)), by decide +kernel⟩
theorem kw_4d7751f5 : Cond.fieldLink R_Mo 76 "SectorWalkModel" "ps" "[J" ∈ sw_words := List.mem_filter.mpr ⟨List.mem_append_right _ (List.mem_of_getElem? (i := 415) (by decide +kernel)), by decide +kernel⟩
theorem kw_9de836cb : Cond.fieldLink R_Mo 80 "SectorWalkModel" "qs" "[J" ∈ sw_words := List.mem_filter.mpr ⟨List.mem_append_right _ (List.mem_of_getElem? (i := 416) (by decide +kernel)), by decide +kernel⟩
