theorem q374 : (Cond.code yL_part cL_part 4 (Option.some ClassFile.FieldType.int)) ∈ AW := AW_mem 374 (by decide +kernel) (by decide +kernel)
theorem q378 : (Cond.codeWith yL_does cL_does 7 (Option.some ClassFile.FieldType.int) [(0, 81, 82, 31), (0, 81, 88, 33), (0, 81, 94, 35)]) ∈ AW := AW_mem 378 (by decide +kernel) (by decide +kernel)
theorem q669 : (Cond.codeWith yL_asks cL_asks 7 (Option.some ClassFile.FieldType.int) [(0, 127, 128, 31)]) ∈ AW := AW_mem 669 (by decide +kernel) (by decide +kernel)
set_option maxRecDepth 100000 in
theorem q737 : (Cond.code yL_isDevice cL_isDevice 21 (Option.some ClassFile.FieldType.boolean)) ∈ AW := List.mem_filter.mpr ⟨List.mem_append_right (k2_sels lw_privs) (List.mem_append_right _ (List.mem_append_right _ (List.mem_append_right _ (List.mem_of_getElem? (i := 12) rfl)))), by decide +kernel⟩
theorem q740 : (Cond.code yL_state cL_state 10 (Option.some ClassFile.FieldType.int)) ∈ AW := AW_mem 740 (by decide +kernel) (by decide +kernel)
theorem q743 : (Cond.code yL_isCovered cL_isCovered 11 (Option.some ClassFile.FieldType.boolean)) ∈ AW := AW_mem 743 (by decide +kernel) (by decide +kernel)
theorem q746 : (Cond.code yL_at cL_at 3 (Option.some ClassFile.FieldType.int)) ∈ AW := AW_mem 746 (by decide +kernel) (by decide +kernel)
theorem q749 : (Cond.code yL_covers cL_covers 6 (Option.some ClassFile.FieldType.boolean)) ∈ AW := AW_mem 749 (by decide +kernel) (by decide +kernel)
theorem q752 : (Cond.code yL_get cL_get 3 (Option.some ClassFile.FieldType.int)) ∈ AW := AW_mem 752 (by decide +kernel) (by decide +kernel)
theorem q756 : (Cond.code yL_all cL_all 5 (Option.some ClassFile.FieldType.int)) ∈ AW := AW_mem 756 (by decide +kernel) (by decide +kernel)
theorem q759 : (Cond.code yL_count cL_count 4 (Option.some ClassFile.FieldType.int)) ∈ AW := AW_mem 759 (by decide +kernel) (by decide +kernel)
theorem q762 : (Cond.code yL_value cL_value 2 (Option.some ClassFile.FieldType.int)) ∈ AW := AW_mem 762 (by decide +kernel) (by decide +kernel)
theorem q765 : (Cond.code yL_isPair cL_isPair 15 (Option.some ClassFile.FieldType.boolean)) ∈ AW := AW_mem 765 (by decide +kernel) (by decide +kernel)
theorem q768 : (Cond.code yL_may cL_may 4 (Option.some ClassFile.FieldType.boolean)) ∈ AW := AW_mem 768 (by decide +kernel) (by decide +kernel)
set_option maxRecDepth 100000 in
theorem q771 : (Cond.code yL_isDone cL_isDone 26 (Option.some ClassFile.FieldType.boolean)) ∈ AW := List.mem_filter.mpr ⟨List.mem_append_right (k2_sels lw_privs) (List.mem_append_right _ (List.mem_append_right _ (List.mem_append_right _ (List.mem_of_getElem? (i := 46) rfl)))), by decide +kernel⟩
theorem q774 : (Cond.code yL_greater cL_greater 7 (Option.some ClassFile.FieldType.long)) ∈ AW := AW_mem 774 (by decide +kernel) (by decide +kernel)
set_option maxRecDepth 100000 in
theorem q777 : (Cond.code yL_isMerged cL_isMerged 23 (Option.some ClassFile.FieldType.boolean)) ∈ AW := List.mem_filter.mpr ⟨List.mem_append_right (k2_sels lw_privs) (List.mem_append_right _ (List.mem_append_right _ (List.mem_append_right _ (List.mem_of_getElem? (i := 52) rfl)))), by decide +kernel⟩
theorem q780 : (Cond.code yL_isOld cL_isOld 8 (Option.some ClassFile.FieldType.boolean)) ∈ AW := AW_mem 780 (by decide +kernel) (by decide +kernel)
theorem q783 : (Cond.code yL_forgets cL_forgets 13 (Option.none : Option ClassFile.FieldType)) ∈ AW := AW_mem 783 (by decide +kernel) (by decide +kernel)
theorem q786 : (Cond.code yL_joins cL_joins 16 (Option.some ClassFile.FieldType.int)) ∈ AW := AW_mem 786 (by decide +kernel) (by decide +kernel)
theorem q789 : (Cond.code yL_joined cL_joined 14 (Option.some ClassFile.FieldType.long)) ∈ AW := AW_mem 789 (by decide +kernel) (by decide +kernel)
theorem q792 : (Cond.code yL_fresh cL_fresh 6 (Option.some ClassFile.FieldType.int)) ∈ AW := AW_mem 792 (by decide +kernel) (by decide +kernel)
set_option maxRecDepth 100000 in
theorem q795 : (Cond.code yL_isPassed cL_isPassed 18 (Option.some ClassFile.FieldType.boolean)) ∈ AW := List.mem_filter.mpr ⟨List.mem_append_right (k2_sels lw_privs) (List.mem_append_right _ (List.mem_append_right _ (List.mem_append_right _ (List.mem_of_getElem? (i := 70) rfl)))), by decide +kernel⟩
