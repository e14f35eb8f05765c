theorem kw_61b6c7c8 : Cond.methodLink R_Mo 136 y_Mo_restart ∈ sw_words := List.mem_filter.mpr ⟨List.mem_append_right _ (List.mem_of_getElem? (i := 539) (by decide +kernel)), by decide +kernel⟩
theorem kw_d495d31d : Cond.instanceMethod y_Mo_restart ∈ sw_words := List.mem_filter.mpr ⟨List.mem_append_right _ (List.mem_of_getElem? (i := 541) (by decide +kernel)), by decide +kernel⟩
theorem kw_591fdf4f : Cond.selects R_Mo y_Mo_restart y_Mo_restart ∈ sw_words := List.mem_filter.mpr ⟨List.mem_append_left _ (List.mem_of_getElem? (i := 14) (by decide +kernel)), by decide +kernel⟩
theorem kw_e3c05911 : Cond.fieldLink R_Mo 34 "SectorWalkModel" "ax" "[I" ∈ sw_words := List.mem_filter.mpr ⟨List.mem_append_right _ (List.mem_of_getElem? (i := 395) (by decide +kernel)), by decide +kernel⟩
theorem kw_e0bf39c9 : Cond.fieldLink R_Mo 37 "SectorWalkModel" "ay" "[I" ∈ sw_words := List.mem_filter.mpr ⟨List.mem_append_right _ (List.mem_of_getElem? (i := 396) (by decide +kernel)), by decide +kernel⟩
theorem kw_8f03951b : Cond.fieldLink R_Mo 40 "SectorWalkModel" "bx" "[I" ∈ sw_words := List.mem_filter.mpr ⟨List.mem_append_right _ (List.mem_of_getElem? (i := 397) (by decide +kernel)), by decide +kernel⟩
theorem kw_8c7cf5c3 : Cond.fieldLink R_Mo 43 "SectorWalkModel" "by" "[I" ∈ sw_words := List.mem_filter.mpr ⟨List.mem_append_right _ (List.mem_of_getElem? (i := 398) (by decide +kernel)), by decide +kernel⟩
theorem kw_18c24816 : Cond.fieldLink R_Mo 46 "SectorWalkModel" "mapFronts" "[I" ∈ sw_words := List.mem_filter.mpr ⟨List.mem_append_right _ (List.mem_of_getElem? (i := 399) (by decide +kernel)), by decide +kernel⟩
theorem kw_d5548263 : Cond.methodLink R_Mo 114 y_Mo_clash ∈ sw_words := List.mem_filter.mpr ⟨List.mem_append_right _ (List.mem_of_getElem? (i := 520) (by decide +kernel)), by decide +kernel⟩
theorem kw_3ba65ca5 : Cond.instanceMethod y_Mo_clash ∈ sw_words := List.mem_filter.mpr ⟨List.mem_append_right _ (List.mem_of_getElem? (i := 522) (by decide +kernel)), by decide +kernel⟩
theorem kw_5d87b785 : Cond.selects R_Mo y_Mo_clash y_Mo_clash ∈ sw_words := List.mem_filter.mpr ⟨List.mem_append_left _ (List.mem_of_getElem? (i := 11) (by decide +kernel)), by decide +kernel⟩
theorem kw_ce4d7d59 : Cond.methodLink R_Mo 152 y_Mo_add ∈ sw_words := List.mem_filter.mpr ⟨List.mem_append_right _ (List.mem_of_getElem? (i := 578) (by decide +kernel)), by decide +kernel⟩
theorem kw_75e800c7 : Cond.instanceMethod y_Mo_add ∈ sw_words := List.mem_filter.mpr ⟨List.mem_append_right _ (List.mem_of_getElem? (i := 580) (by decide +kernel)), by decide +kernel⟩
theorem kw_54344836 : Cond.selects R_Mo y_Mo_add y_Mo_add ∈ sw_words := List.mem_filter.mpr ⟨List.mem_append_left _ (List.mem_of_getElem? (i := 17) (by decide +kernel)), by decide +kernel⟩
theorem kw_afe41cff : Cond.methodLink R_Mo 1 objectInit ∈ sw_words := List.mem_filter.mpr ⟨List.mem_append_right _ (List.mem_of_getElem? (i := 382) (by decide +kernel)), by decide +kernel⟩
theorem kw_ada433b9 : Cond.arrayClass .long ∈ sw_words := List.mem_filter.mpr ⟨List.mem_append_right _ (List.mem_of_getElem? (i := 492) (by decide +kernel)), by decide +kernel⟩
