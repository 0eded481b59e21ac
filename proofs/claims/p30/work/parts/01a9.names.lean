theorem zbt_breads : Cond.code yL_breads cL_breads 17 (some .boolean) ∈ tables_1 := List.mem_append_left _ (List.mem_of_getElem? (i := 169) rfl)
theorem zbw_breads : Cond.code yL_breads cL_breads 17 (some .boolean) ∈ lw_tbl := List.mem_append_right _ zbt_breads
theorem zbt_persons : Cond.code yL_persons cL_persons 15 (some .boolean) ∈ tables_1 := List.mem_append_right _ (List.mem_append_right _ (List.mem_of_getElem? (i := 43) rfl))
theorem zbw_persons : Cond.code yL_persons cL_persons 15 (some .boolean) ∈ lw_tbl := List.mem_append_right _ zbt_persons
theorem zbt_agree : Cond.code yL_agree cL_agree 14 (some .boolean) ∈ tables_1 := List.mem_append_right _ (List.mem_append_right _ (List.mem_of_getElem? (i := 92) rfl))
theorem zbw_agree : Cond.code yL_agree cL_agree 14 (some .boolean) ∈ lw_tbl := List.mem_append_right _ zbt_agree
