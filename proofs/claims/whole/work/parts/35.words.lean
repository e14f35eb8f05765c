theorem kw_52488507 : Cond.methodLink R_Mo 156 y_Mo_s ∈ sw_words := List.mem_filter.mpr ⟨List.mem_append_right _ (List.mem_of_getElem? (i := 568) (by decide +kernel)), by decide +kernel⟩
theorem kw_b063528c : Cond.static y_Mo_s ∈ sw_words := List.mem_filter.mpr ⟨List.mem_append_right _ (List.mem_of_getElem? (i := 569) (by decide +kernel)), by decide +kernel⟩
theorem kw_46c43e07 : Cond.methodLink R_Mo 159 y_Mo_part ∈ sw_words := List.mem_filter.mpr ⟨List.mem_append_right _ (List.mem_of_getElem? (i := 571) (by decide +kernel)), by decide +kernel⟩
theorem kw_5a9994da : Cond.static y_Mo_part ∈ sw_words := List.mem_filter.mpr ⟨List.mem_append_right _ (List.mem_of_getElem? (i := 572) (by decide +kernel)), by decide +kernel⟩
theorem kw_7727e591 : Cond.methodLink R_Mo 162 y_Mo_cross ∈ sw_words := List.mem_filter.mpr ⟨List.mem_append_right _ (List.mem_of_getElem? (i := 574) (by decide +kernel)), by decide +kernel⟩
theorem kw_0b9b98ef : Cond.instanceMethod y_Mo_cross ∈ sw_words := List.mem_filter.mpr ⟨List.mem_append_right _ (List.mem_of_getElem? (i := 576) (by decide +kernel)), by decide +kernel⟩
theorem kw_72bae887 : Cond.selects R_Mo y_Mo_cross y_Mo_cross ∈ sw_words := List.mem_filter.mpr ⟨List.mem_append_left _ (List.mem_of_getElem? (i := 16) (by decide +kernel)), by decide +kernel⟩
theorem kw_00ff7607 : Cond.methodLink R_Mo 166 y_Mo_isStop ∈ sw_words := List.mem_filter.mpr ⟨List.mem_append_right _ (List.mem_of_getElem? (i := 582) (by decide +kernel)), by decide +kernel⟩
theorem kw_7787fcd7 : Cond.instanceMethod y_Mo_isStop ∈ sw_words := List.mem_filter.mpr ⟨List.mem_append_right _ (List.mem_of_getElem? (i := 584) (by decide +kernel)), by decide +kernel⟩
theorem kw_f7aa7cd8 : Cond.selects R_Mo y_Mo_isStop y_Mo_isStop ∈ sw_words := List.mem_filter.mpr ⟨List.mem_append_left _ (List.mem_of_getElem? (i := 18) (by decide +kernel)), by decide +kernel⟩
theorem kw_8b19ede5 : Cond.methodLink R_Mo 169 y_Mo_go ∈ sw_words := List.mem_filter.mpr ⟨List.mem_append_right _ (List.mem_of_getElem? (i := 558) (by decide +kernel)), by decide +kernel⟩
theorem kw_4c41558e : Cond.instanceMethod y_Mo_go ∈ sw_words := List.mem_filter.mpr ⟨List.mem_append_right _ (List.mem_of_getElem? (i := 560) (by decide +kernel)), by decide +kernel⟩
theorem kw_2ec87676 : Cond.selects R_Mo y_Mo_go y_Mo_go ∈ sw_words := List.mem_filter.mpr ⟨List.mem_append_left _ (List.mem_of_getElem? (i := 15) (by decide +kernel)), by decide +kernel⟩
