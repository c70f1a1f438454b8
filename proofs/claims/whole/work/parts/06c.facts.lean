/-! the methods, each against its words -/
theorem cw_0 : Cond.code ⟨"IllLight$Coast", "clear", "()V"⟩ prog_2_method_2_code 1 none ∈ pm_tb := List.mem_filter.mpr ⟨(List.mem_append_right (k2_sels lw_privs) (List.mem_append_right _ (List.mem_append_left _ (List.mem_of_getElem? (l := tables_1_2) (i := 130) rfl)))), rfl⟩
theorem cw_1 : Cond.code ⟨"IllLight$Coast", "copyFrom", "(LIllLight$Coast;)V"⟩ prog_2_method_3_code 2 none ∈ pm_tb := List.mem_filter.mpr ⟨(List.mem_append_right (k2_sels lw_privs) (List.mem_append_right _ (List.mem_append_right _ (List.mem_append_left _ (List.mem_of_getElem? (l := tables_1_3) (i := 76) rfl))))), rfl⟩
theorem cw_2 : Cond.code ⟨"IllLight$Coast", "addGuard", "(II)V"⟩ prog_2_method_4_code 3 none ∈ pm_tb := List.mem_filter.mpr ⟨(List.mem_append_right (k2_sels lw_privs) (List.mem_append_right _ (List.mem_append_right _ (List.mem_append_left _ (List.mem_of_getElem? (l := tables_1_3) (i := 59) rfl))))), rfl⟩
theorem cw_3 : Cond.code ⟨"IllLight$Coast", "addShip", "(III)V"⟩ prog_2_method_5_code 4 none ∈ pm_tb := List.mem_filter.mpr ⟨(List.mem_append_right (k2_sels lw_privs) (List.mem_append_right _ (List.mem_append_right _ (List.mem_append_left _ (List.mem_of_getElem? (l := tables_1_3) (i := 63) rfl))))), rfl⟩
theorem cw_4 : Cond.code ⟨"IllLight$Coast", "addMan", "(III)V"⟩ prog_2_method_6_code 6 none ∈ pm_tb := List.mem_filter.mpr ⟨(List.mem_append_right (k2_sels lw_privs) (List.mem_append_right _ (List.mem_append_right _ (List.mem_append_left _ (List.mem_of_getElem? (l := tables_1_3) (i := 50) rfl))))), rfl⟩
theorem cw_5 : Cond.code ⟨"IllLight$Coast", "hasShip", "(I)Z"⟩ prog_2_method_7_code 2 (some .boolean) ∈ pm_tb := List.mem_filter.mpr ⟨(List.mem_append_right (k2_sels lw_privs) (List.mem_append_right _ (List.mem_append_right _ (List.mem_append_left _ (List.mem_of_getElem? (l := tables_1_3) (i := 1) rfl))))), rfl⟩
theorem cw_6 : Cond.code ⟨"IllLight$Coast", "hasMan", "(II)Z"⟩ prog_2_method_8_code 3 (some .boolean) ∈ pm_tb := List.mem_filter.mpr ⟨(List.mem_append_right (k2_sels lw_privs) (List.mem_append_right _ (List.mem_append_right _ (List.mem_append_left _ (List.mem_of_getElem? (l := tables_1_3) (i := 135) rfl))))), rfl⟩
theorem cw_7 : Cond.code ⟨"IllLight$Coast", "cells", "()I"⟩ prog_2_method_9_code 1 (some .int) ∈ pm_tb := List.mem_filter.mpr ⟨(List.mem_append_right (k2_sels lw_privs) (List.mem_append_right _ (List.mem_append_right _ (List.mem_append_left _ (List.mem_of_getElem? (l := tables_1_3) (i := 127) rfl))))), rfl⟩
theorem cw_8 : Cond.code ⟨"IllLight$Coast", "spotOf", "(I)I"⟩ prog_2_method_10_code 2 (some .int) ∈ pm_tb := List.mem_filter.mpr ⟨(List.mem_append_right (k2_sels lw_privs) (List.mem_append_right _ (List.mem_append_right _ (List.mem_append_left _ (List.mem_of_getElem? (l := tables_1_3) (i := 123) rfl))))), rfl⟩
theorem cw_9 : Cond.code ⟨"IllLight$Coast", "cellOf", "(I)I"⟩ prog_2_method_11_code 2 (some .int) ∈ pm_tb := List.mem_filter.mpr ⟨(List.mem_append_right (k2_sels lw_privs) (List.mem_append_right _ (List.mem_append_right _ (List.mem_append_left _ (List.mem_of_getElem? (l := tables_1_3) (i := 111) rfl))))), rfl⟩
theorem cw_10 : Cond.code ⟨"IllLight$Coast", "board", "()J"⟩ prog_2_method_12_code 6 (some .long) ∈ pm_tb := List.mem_filter.mpr ⟨(List.mem_append_right (k2_sels lw_privs) (List.mem_append_right _ (List.mem_append_right _ (List.mem_append_left _ (List.mem_of_getElem? (l := tables_1_3) (i := 223) rfl))))), rfl⟩
theorem cw_11 : Cond.code ⟨"IllLight$Coast", "guarded", "()J"⟩ prog_2_method_13_code 6 (some .long) ∈ pm_tb := List.mem_filter.mpr ⟨(List.mem_append_right (k2_sels lw_privs) (List.mem_append_right _ (List.mem_append_right _ (List.mem_append_left _ (List.mem_of_getElem? (l := tables_1_3) (i := 219) rfl))))), rfl⟩
theorem cw_12 : Cond.code ⟨"IllLight$Coast", "told", "(I)I"⟩ prog_2_method_14_code 2 (some .int) ∈ pm_tb := List.mem_filter.mpr ⟨(List.mem_append_right (k2_sels lw_privs) (List.mem_append_right _ (List.mem_append_right _ (List.mem_append_left _ (List.mem_of_getElem? (l := tables_1_3) (i := 107) rfl))))), rfl⟩
theorem cw_13 : Cond.code ⟨"IllLight$Coast", "toldOfOne", "(II)I"⟩ prog_2_method_15_code 3 (some .int) ∈ pm_tb := List.mem_filter.mpr ⟨(List.mem_append_right (k2_sels lw_privs) (List.mem_append_right _ (List.mem_append_right _ (List.mem_append_left _ (List.mem_of_getElem? (l := tables_1_3) (i := 115) rfl))))), rfl⟩
theorem cw_14 : Cond.code ⟨"IllLight$Coast", "toldOfRock", "(I)I"⟩ prog_2_method_16_code 3 (some .int) ∈ pm_tb := List.mem_filter.mpr ⟨(List.mem_append_right (k2_sels lw_privs) (List.mem_append_right _ (List.mem_append_right _ (List.mem_append_left _ (List.mem_of_getElem? (l := tables_1_3) (i := 119) rfl))))), rfl⟩
theorem cw_15 : Cond.code ⟨"IllLight$Coast", "meant", "(III)I"⟩ prog_2_method_17_code 6 (some .int) ∈ pm_tb := List.mem_filter.mpr ⟨(List.mem_append_right (k2_sels lw_privs) (List.mem_append_right _ (List.mem_append_right _ (List.mem_append_left _ (List.mem_of_getElem? (l := tables_1_3) (i := 163) rfl))))), rfl⟩
theorem cw_16 : Cond.code ⟨"IllLight$Coast", "harm", "(II)I"⟩ prog_2_method_18_code 5 (some .int) ∈ pm_tb := List.mem_filter.mpr ⟨(List.mem_append_right (k2_sels lw_privs) (List.mem_append_right _ (List.mem_append_right _ (List.mem_append_left _ (List.mem_of_getElem? (l := tables_1_3) (i := 159) rfl))))), rfl⟩
theorem cw_17 : Cond.code ⟨"IllLight$Coast", "glow", "(II)I"⟩ prog_2_method_19_code 4 (some .int) ∈ pm_tb := List.mem_filter.mpr ⟨(List.mem_append_right (k2_sels lw_privs) (List.mem_append_right _ (List.mem_append_right _ (List.mem_append_left _ (List.mem_of_getElem? (l := tables_1_3) (i := 168) rfl))))), rfl⟩
theorem cw_18 : Cond.code ⟨"IllLight$Coast", "isLit", "(II)Z"⟩ prog_2_method_20_code 2 (some .boolean) ∈ pm_tb := List.mem_filter.mpr ⟨(List.mem_append_right (k2_sels lw_privs) (List.mem_append_right _ (List.mem_append_right _ (List.mem_append_left _ (List.mem_of_getElem? (l := tables_1_3) (i := 172) rfl))))), rfl⟩
theorem cw_19 : Cond.code ⟨"IllLight$Coast", "hoursOf", "(II)I"⟩ prog_2_method_21_code 5 (some .int) ∈ pm_tb := List.mem_filter.mpr ⟨(List.mem_append_right (k2_sels lw_privs) (List.mem_append_right _ (List.mem_append_right _ (List.mem_append_right _ (List.mem_append_right _ (List.mem_append_left _ (List.mem_of_getElem? (l := tables_1_5) (i := 26) rfl))))))), rfl⟩
theorem cw_20 : Cond.code ⟨"IllLight$Coast", "litHours", "(I)I"⟩ prog_2_method_22_code 4 (some .int) ∈ pm_tb := List.mem_filter.mpr ⟨(List.mem_append_right (k2_sels lw_privs) (List.mem_append_right _ (List.mem_append_right _ (List.mem_append_right _ (List.mem_append_left _ (List.mem_of_getElem? (l := tables_1_4) (i := 49) rfl)))))), rfl⟩
theorem cw_21 : Cond.code ⟨"IllLight$Coast", "worstHour", "(I)I"⟩ prog_2_method_23_code 4 (some .int) ∈ pm_tb := List.mem_filter.mpr ⟨(List.mem_append_right (k2_sels lw_privs) (List.mem_append_right _ (List.mem_append_right _ (List.mem_append_right _ (List.mem_append_right _ (List.mem_append_left _ (List.mem_of_getElem? (l := tables_1_5) (i := 34) rfl))))))), rfl⟩
theorem cw_22 : Cond.code ⟨"IllLight$Coast", "mutineers", "(II)I"⟩ prog_2_method_24_code 5 (some .int) ∈ pm_tb := List.mem_filter.mpr ⟨(List.mem_append_right (k2_sels lw_privs) (List.mem_append_right _ (List.mem_append_right _ (List.mem_append_right _ (List.mem_append_right _ (List.mem_append_left _ (List.mem_of_getElem? (l := tables_1_5) (i := 91) rfl))))))), rfl⟩
theorem cw_23 : Cond.code ⟨"IllLight$Coast", "worstMan", "(II)I"⟩ prog_2_method_25_code 5 (some .int) ∈ pm_tb := List.mem_filter.mpr ⟨(List.mem_append_right (k2_sels lw_privs) (List.mem_append_right _ (List.mem_append_right _ (List.mem_append_right _ (List.mem_append_right _ (List.mem_append_left _ (List.mem_of_getElem? (l := tables_1_5) (i := 87) rfl))))))), rfl⟩
theorem cw_24 : Cond.code ⟨"IllLight$Coast", "side", "(I)I"⟩ prog_2_method_26_code 4 (some .int) ∈ pm_tb := List.mem_filter.mpr ⟨(List.mem_append_right (k2_sels lw_privs) (List.mem_append_right _ (List.mem_append_right _ (List.mem_append_left _ (List.mem_of_getElem? (l := tables_1_3) (i := 206) rfl))))), rfl⟩
theorem cw_25 : Cond.code ⟨"IllLight$Coast", "fromLamp", "(I)I"⟩ prog_2_method_27_code 2 (some .int) ∈ pm_tb := List.mem_filter.mpr ⟨(List.mem_append_right (k2_sels lw_privs) (List.mem_append_right _ (List.mem_append_right _ (List.mem_append_left _ (List.mem_of_getElem? (l := tables_1_3) (i := 210) rfl))))), rfl⟩
theorem cw_26 : Cond.code ⟨"IllLight$Coast", "shaded", "(I)I"⟩ prog_2_method_28_code 2 (some .int) ∈ pm_tb := List.mem_filter.mpr ⟨(List.mem_append_right (k2_sels lw_privs) (List.mem_append_right _ (List.mem_append_right _ (List.mem_append_right _ (List.mem_append_right _ (List.mem_append_left _ (List.mem_of_getElem? (l := tables_1_5) (i := 42) rfl))))))), rfl⟩
theorem cw_27 : Cond.code ⟨"IllLight$Coast", "makePlain", "(III)V"⟩ prog_2_method_29_code 4 none ∈ pm_tb := List.mem_filter.mpr ⟨(List.mem_append_right (k2_sels lw_privs) (List.mem_append_right _ (List.mem_append_right _ (List.mem_append_right _ (List.mem_append_left _ (List.mem_of_getElem? (l := tables_1_4) (i := 4) rfl)))))), rfl⟩
theorem cw_28 : Cond.code ⟨"IllLight$Coast", "lull", "(II)V"⟩ prog_2_method_30_code 4 none ∈ pm_tb := List.mem_filter.mpr ⟨(List.mem_append_right (k2_sels lw_privs) (List.mem_append_right _ (List.mem_append_right _ (List.mem_append_right _ (List.mem_append_left _ (List.mem_of_getElem? (l := tables_1_4) (i := 96) rfl)))))), rfl⟩
theorem cw_29 : Cond.code ⟨"IllLight$Course", "begin", "(LIllLight$Coast;)V"⟩ prog_3_method_2_code 2 none ∈ pm_tb := List.mem_filter.mpr ⟨(List.mem_append_right (k2_sels lw_privs) (List.mem_append_right _ (List.mem_append_right _ (List.mem_append_left _ (List.mem_of_getElem? (l := tables_1_3) (i := 185) rfl))))), rfl⟩
theorem cw_30 : Cond.code ⟨"IllLight$Course", "follow", "(LIllLight$Coast;LIllLight$Night;I)I"⟩ prog_3_method_3_code 8 (some .int) ∈ pm_tb := List.mem_filter.mpr ⟨(List.mem_append_right (k2_sels lw_privs) (List.mem_append_right _ (List.mem_append_right _ (List.mem_append_left _ (List.mem_of_getElem? (l := tables_1_3) (i := 181) rfl))))), rfl⟩
theorem cw_31 : Cond.code ⟨"IllLight$Course", "draw", "(LIllLight$Coast;II)V"⟩ prog_3_method_4_code 9 none ∈ pm_tb := List.mem_filter.mpr ⟨(List.mem_append_right (k2_sels lw_privs) (List.mem_append_right _ (List.mem_append_right _ (List.mem_append_right _ (List.mem_append_right _ (List.mem_append_left _ (List.mem_of_getElem? (l := tables_1_5) (i := 13) rfl))))))), rfl⟩
theorem cw_32 : Cond.code ⟨"IllLight$Course", "below", "(I)I"⟩ prog_3_method_5_code 2 (some .int) ∈ pm_tb := List.mem_filter.mpr ⟨(List.mem_append_right (k2_sels lw_privs) (List.mem_append_right _ (List.mem_append_right _ (List.mem_append_right _ (List.mem_append_right _ (List.mem_append_left _ (List.mem_of_getElem? (l := tables_1_5) (i := 17) rfl))))))), rfl⟩
theorem cw_33 : Cond.code ⟨"IllLight$Course", "act", "(IIII)Z"⟩ prog_3_method_6_code 5 (some .boolean) ∈ pm_tb := List.mem_filter.mpr ⟨(List.mem_append_right (k2_sels lw_privs) (List.mem_append_right _ (List.mem_append_right _ (List.mem_append_left _ (List.mem_of_getElem? (l := tables_1_3) (i := 235) rfl))))), rfl⟩
theorem cw_34 : Cond.code ⟨"IllLight$Course", "isLost", "(I)Z"⟩ prog_3_method_7_code 2 (some .boolean) ∈ pm_tb := List.mem_filter.mpr ⟨(List.mem_append_right (k2_sels lw_privs) (List.mem_append_right _ (List.mem_append_right _ (List.mem_append_left _ (List.mem_of_getElem? (l := tables_1_3) (i := 198) rfl))))), rfl⟩
theorem cw_35 : Cond.code ⟨"IllLight$Course", "sail", "(II)Z"⟩ prog_3_method_8_code 5 (some .boolean) ∈ pm_tb := List.mem_filter.mpr ⟨(List.mem_append_right (k2_sels lw_privs) (List.mem_append_right _ (List.mem_append_right _ (List.mem_append_right _ (List.mem_append_left _ (List.mem_of_getElem? (l := tables_1_4) (i := 0) rfl)))))), rfl⟩
theorem cw_36 : Cond.code ⟨"IllLight$Course", "throwOut", "(I)Z"⟩ prog_3_method_9_code 2 (some .boolean) ∈ pm_tb := List.mem_filter.mpr ⟨(List.mem_append_right (k2_sels lw_privs) (List.mem_append_right _ (List.mem_append_right _ (List.mem_append_right _ (List.mem_append_left _ (List.mem_of_getElem? (l := tables_1_4) (i := 10) rfl)))))), rfl⟩
theorem cw_37 : Cond.code ⟨"IllLight$Course", "pass", "()Z"⟩ prog_3_method_10_code 8 (some .boolean) ∈ pm_tb := List.mem_filter.mpr ⟨(List.mem_append_right (k2_sels lw_privs) (List.mem_append_right _ (List.mem_append_right _ (List.mem_append_left _ (List.mem_of_getElem? (l := tables_1_3) (i := 190) rfl))))), rfl⟩
theorem cw_38 : Cond.code ⟨"IllLight$Course", "beam", "()I"⟩ prog_3_method_11_code 3 (some .int) ∈ pm_tb := List.mem_filter.mpr ⟨(List.mem_append_right (k2_sels lw_privs) (List.mem_append_right _ (List.mem_append_right _ (List.mem_append_left _ (List.mem_of_getElem? (l := tables_1_3) (i := 194) rfl))))), rfl⟩
theorem cw_39 : Cond.code ⟨"IllLight$Course", "whoseLight", "(I)I"⟩ prog_3_method_12_code 5 (some .int) ∈ pm_tb := List.mem_filter.mpr ⟨(List.mem_append_right (k2_sels lw_privs) (List.mem_append_right _ (List.mem_append_right _ (List.mem_append_left _ (List.mem_of_getElem? (l := tables_1_3) (i := 202) rfl))))), rfl⟩
theorem cw_40 : Cond.code ⟨"IllLight$Course", "told", "(I)I"⟩ prog_3_method_13_code 2 (some .int) ∈ pm_tb := List.mem_filter.mpr ⟨(List.mem_append_right (k2_sels lw_privs) (List.mem_append_right _ (List.mem_append_right _ (List.mem_append_right _ (List.mem_append_left _ (List.mem_of_getElem? (l := tables_1_4) (i := 18) rfl)))))), rfl⟩
theorem cw_41 : Cond.code ⟨"IllLight$Course", "toldOfShip", "(II)I"⟩ prog_3_method_14_code 3 (some .int) ∈ pm_tb := List.mem_filter.mpr ⟨(List.mem_append_right (k2_sels lw_privs) (List.mem_append_right _ (List.mem_append_right _ (List.mem_append_right _ (List.mem_append_left _ (List.mem_of_getElem? (l := tables_1_4) (i := 22) rfl)))))), rfl⟩
theorem cw_42 : Cond.code ⟨"IllLight$Course", "toldOfMan", "(II)I"⟩ prog_3_method_15_code 3 (some .int) ∈ pm_tb := List.mem_filter.mpr ⟨(List.mem_append_right (k2_sels lw_privs) (List.mem_append_right _ (List.mem_append_right _ (List.mem_append_right _ (List.mem_append_left _ (List.mem_of_getElem? (l := tables_1_4) (i := 28) rfl)))))), rfl⟩
theorem cw_43 : Cond.code ⟨"IllLight$Log", "clear", "()V"⟩ prog_4_method_2_code 1 none ∈ pm_tb := List.mem_filter.mpr ⟨(List.mem_append_right (k2_sels lw_privs) (List.mem_append_right _ (List.mem_append_left _ (List.mem_of_getElem? (l := tables_1_2) (i := 134) rfl)))), rfl⟩
theorem cw_44 : Cond.code ⟨"IllLight$Log", "copyFrom", "(LIllLight$Log;)V"⟩ prog_4_method_3_code 2 none ∈ pm_tb := List.mem_filter.mpr ⟨(List.mem_append_right (k2_sels lw_privs) (List.mem_append_right _ (List.mem_append_right _ (List.mem_append_left _ (List.mem_of_getElem? (l := tables_1_3) (i := 88) rfl))))), rfl⟩
theorem cw_45 : Cond.code ⟨"IllLight$Log", "addMan", "(I)V"⟩ prog_4_method_4_code 2 none ∈ pm_tb := List.mem_filter.mpr ⟨(List.mem_append_right (k2_sels lw_privs) (List.mem_append_right _ (List.mem_append_right _ (List.mem_append_left _ (List.mem_of_getElem? (l := tables_1_3) (i := 35) rfl))))), rfl⟩
theorem cw_46 : Cond.code ⟨"IllLight$Log", "addFact", "(II)V"⟩ prog_4_method_5_code 3 none ∈ pm_tb := List.mem_filter.mpr ⟨(List.mem_append_right (k2_sels lw_privs) (List.mem_append_right _ (List.mem_append_right _ (List.mem_append_left _ (List.mem_of_getElem? (l := tables_1_3) (i := 39) rfl))))), rfl⟩
theorem cw_47 : Cond.code ⟨"IllLight$Log", "hasMan", "(I)Z"⟩ prog_4_method_6_code 2 (some .boolean) ∈ pm_tb := List.mem_filter.mpr ⟨(List.mem_append_right (k2_sels lw_privs) (List.mem_append_right _ (List.mem_append_right _ (List.mem_append_right _ (List.mem_append_left _ (List.mem_of_getElem? (l := tables_1_4) (i := 188) rfl)))))), rfl⟩
theorem cw_48 : Cond.code ⟨"IllLight$Log", "told", "(I)I"⟩ prog_4_method_7_code 2 (some .int) ∈ pm_tb := List.mem_filter.mpr ⟨(List.mem_append_right (k2_sels lw_privs) (List.mem_append_right _ (List.mem_append_right _ (List.mem_append_right _ (List.mem_append_left _ (List.mem_of_getElem? (l := tables_1_4) (i := 180) rfl)))))), rfl⟩
theorem cw_49 : Cond.code ⟨"IllLight$Log", "toldOfOne", "(II)I"⟩ prog_4_method_8_code 3 (some .int) ∈ pm_tb := List.mem_filter.mpr ⟨(List.mem_append_right (k2_sels lw_privs) (List.mem_append_right _ (List.mem_append_right _ (List.mem_append_right _ (List.mem_append_left _ (List.mem_of_getElem? (l := tables_1_4) (i := 184) rfl)))))), rfl⟩
theorem cw_50 : Cond.code ⟨"IllLight$Log", "sets", "()I"⟩ prog_4_method_9_code 1 (some .int) ∈ pm_tb := List.mem_filter.mpr ⟨(List.mem_append_right (k2_sels lw_privs) (List.mem_append_right _ (List.mem_append_right _ (List.mem_append_right _ (List.mem_append_left _ (List.mem_of_getElem? (l := tables_1_4) (i := 200) rfl)))))), rfl⟩
theorem cw_51 : Cond.code ⟨"IllLight$Log", "shines", "(II)Z"⟩ prog_4_method_10_code 4 (some .boolean) ∈ pm_tb := List.mem_filter.mpr ⟨(List.mem_append_right (k2_sels lw_privs) (List.mem_append_right _ (List.mem_append_right _ (List.mem_append_right _ (List.mem_append_left _ (List.mem_of_getElem? (l := tables_1_4) (i := 212) rfl)))))), rfl⟩
theorem cw_52 : Cond.code ⟨"IllLight$Log", "agrees", "(II)Z"⟩ prog_4_method_11_code 3 (some .boolean) ∈ pm_tb := List.mem_filter.mpr ⟨(List.mem_append_right (k2_sels lw_privs) (List.mem_append_right _ (List.mem_append_right _ (List.mem_append_right _ (List.mem_append_left _ (List.mem_of_getElem? (l := tables_1_4) (i := 208) rfl)))))), rfl⟩
theorem cw_53 : Cond.code ⟨"IllLight$Log", "allAgree", "(I)Z"⟩ prog_4_method_12_code 3 (some .boolean) ∈ pm_tb := List.mem_filter.mpr ⟨(List.mem_append_right (k2_sels lw_privs) (List.mem_append_right _ (List.mem_append_right _ (List.mem_append_right _ (List.mem_append_left _ (List.mem_of_getElem? (l := tables_1_4) (i := 204) rfl)))))), rfl⟩
theorem cw_54 : Cond.code ⟨"IllLight$Log", "fitting", "()J"⟩ prog_4_method_13_code 4 (some .long) ∈ pm_tb := List.mem_filter.mpr ⟨(List.mem_append_right (k2_sels lw_privs) (List.mem_append_right _ (List.mem_append_right _ (List.mem_append_right _ (List.mem_append_left _ (List.mem_of_getElem? (l := tables_1_4) (i := 196) rfl)))))), rfl⟩
theorem cw_55 : Cond.code ⟨"IllLight$Log", "sure", "(J)I"⟩ prog_4_method_14_code 5 (some .int) ∈ pm_tb := List.mem_filter.mpr ⟨(List.mem_append_right (k2_sels lw_privs) (List.mem_append_right _ (List.mem_append_right _ (List.mem_append_right _ (List.mem_append_left _ (List.mem_of_getElem? (l := tables_1_4) (i := 218) rfl)))))), rfl⟩
theorem cw_56 : Cond.code ⟨"IllLight$Log", "setAt", "(JI)I"⟩ prog_4_method_15_code 6 (some .int) ∈ pm_tb := List.mem_filter.mpr ⟨(List.mem_append_right (k2_sels lw_privs) (List.mem_append_right _ (List.mem_append_right _ (List.mem_append_right _ (List.mem_append_left _ (List.mem_of_getElem? (l := tables_1_4) (i := 232) rfl)))))), rfl⟩
theorem cw_57 : Cond.code ⟨"IllLight$Log", "hourToAsk", "(J)I"⟩ prog_4_method_16_code 9 (some .int) ∈ pm_tb := List.mem_filter.mpr ⟨(List.mem_append_right (k2_sels lw_privs) (List.mem_append_right _ (List.mem_append_right _ (List.mem_append_right _ (List.mem_append_left _ (List.mem_of_getElem? (l := tables_1_4) (i := 222) rfl)))))), rfl⟩
theorem cw_58 : Cond.code ⟨"IllLight$Log", "shiningAt", "(I)J"⟩ prog_4_method_17_code 5 (some .long) ∈ pm_tb := List.mem_filter.mpr ⟨(List.mem_append_right (k2_sels lw_privs) (List.mem_append_right _ (List.mem_append_right _ (List.mem_append_right _ (List.mem_append_left _ (List.mem_of_getElem? (l := tables_1_4) (i := 227) rfl)))))), rfl⟩
theorem cw_59 : Cond.code ⟨"IllLight$Log", "weightOf", "(II)J"⟩ prog_4_method_18_code 6 (some .long) ∈ pm_tb := List.mem_filter.mpr ⟨(List.mem_append_right (k2_sels lw_privs) (List.mem_append_right _ (List.mem_append_right _ (List.mem_append_right _ (List.mem_append_right _ (List.mem_append_left _ (List.mem_of_getElem? (l := tables_1_5) (i := 1) rfl))))))), rfl⟩
theorem cw_60 : Cond.code ⟨"IllLight$Log", "weight", "(I)J"⟩ prog_4_method_19_code 5 (some .long) ∈ pm_tb := List.mem_filter.mpr ⟨(List.mem_append_right (k2_sels lw_privs) (List.mem_append_right _ (List.mem_append_right _ (List.mem_append_right _ (List.mem_append_right _ (List.mem_append_left _ (List.mem_of_getElem? (l := tables_1_5) (i := 5) rfl))))))), rfl⟩
theorem cw_61 : Cond.code ⟨"IllLight$Night", "add", "(IIII)V"⟩ prog_5_method_2_code 5 none ∈ pm_tb := List.mem_filter.mpr ⟨(List.mem_append_right (k2_sels lw_privs) (List.mem_append_right _ (List.mem_append_right _ (List.mem_append_left _ (List.mem_of_getElem? (l := tables_1_3) (i := 27) rfl))))), rfl⟩
theorem cw_62 : Cond.code ⟨"IllLight$Night", "copyFrom", "(LIllLight$Night;)V"⟩ prog_5_method_3_code 2 none ∈ pm_tb := List.mem_filter.mpr ⟨(List.mem_append_right (k2_sels lw_privs) (List.mem_append_right _ (List.mem_append_right _ (List.mem_append_left _ (List.mem_of_getElem? (l := tables_1_3) (i := 83) rfl))))), rfl⟩
theorem cw_63 : Cond.code ⟨"IllLight$Night", "told", "(II)I"⟩ prog_5_method_4_code 3 (some .int) ∈ pm_tb := List.mem_filter.mpr ⟨(List.mem_append_right (k2_sels lw_privs) (List.mem_append_right _ (List.mem_append_right _ (List.mem_append_left _ (List.mem_of_getElem? (l := tables_1_3) (i := 147) rfl))))), rfl⟩
theorem cw_64 : Cond.code ⟨"IllLight$Reader", "read", "([III)V"⟩ prog_6_method_2_code 5 none ∈ pm_tb := List.mem_filter.mpr ⟨(List.mem_append_right (k2_sels lw_privs) (List.mem_append_right _ (List.mem_append_left _ (List.mem_of_getElem? (l := tables_1_2) (i := 122) rfl)))), rfl⟩
theorem cw_65 : Cond.code ⟨"IllLight$Reader", "begin", "()V"⟩ prog_6_method_3_code 1 none ∈ pm_tb := List.mem_filter.mpr ⟨(List.mem_append_right (k2_sels lw_privs) (List.mem_append_right _ (List.mem_append_left _ (List.mem_of_getElem? (l := tables_1_2) (i := 126) rfl)))), rfl⟩
theorem cw_66 : Cond.code ⟨"IllLight$Reader", "note", "(II)V"⟩ prog_6_method_4_code 3 none ∈ pm_tb := List.mem_filter.mpr ⟨(List.mem_append_right (k2_sels lw_privs) (List.mem_append_right _ (List.mem_append_right _ (List.mem_append_left _ (List.mem_of_getElem? (l := tables_1_3) (i := 8) rfl))))), rfl⟩
theorem cw_67 : Cond.code ⟨"IllLight$Reader", "advance", "([II)V"⟩ prog_6_method_5_code 3 none ∈ pm_tb := List.mem_filter.mpr ⟨(List.mem_append_right (k2_sels lw_privs) (List.mem_append_right _ (List.mem_append_left _ (List.mem_of_getElem? (l := tables_1_2) (i := 138) rfl)))), rfl⟩
theorem cw_68 : Cond.code ⟨"IllLight$Reader", "isLetter", "(I)Z"⟩ prog_6_method_6_code 1 (some .boolean) ∈ pm_tb := List.mem_filter.mpr ⟨(List.mem_append_right (k2_sels lw_privs) (List.mem_append_right _ (List.mem_append_left _ (List.mem_of_getElem? (l := tables_1_2) (i := 141) rfl)))), rfl⟩
theorem cw_69 : Cond.code ⟨"IllLight$Reader", "isDigit", "(I)Z"⟩ prog_6_method_7_code 1 (some .boolean) ∈ pm_tb := List.mem_filter.mpr ⟨(List.mem_append_right (k2_sels lw_privs) (List.mem_append_right _ (List.mem_append_left _ (List.mem_of_getElem? (l := tables_1_2) (i := 144) rfl)))), rfl⟩
theorem cw_70 : Cond.code ⟨"IllLight$Reader", "readLine", "([III)Z"⟩ prog_6_method_8_code 6 (some .boolean) ∈ pm_tb := List.mem_filter.mpr ⟨(List.mem_append_right (k2_sels lw_privs) (List.mem_append_right _ (List.mem_append_left _ (List.mem_of_getElem? (l := tables_1_2) (i := 148) rfl)))), rfl⟩
theorem cw_71 : Cond.code ⟨"IllLight$Reader", "wordHere", "([II)I"⟩ prog_6_method_9_code 4 (some .int) ∈ pm_tb := List.mem_filter.mpr ⟨(List.mem_append_right (k2_sels lw_privs) (List.mem_append_right _ (List.mem_append_left _ (List.mem_of_getElem? (l := tables_1_2) (i := 152) rfl)))), rfl⟩
theorem cw_72 : Cond.code ⟨"IllLight$Reader", "isHere", "([ILjava/lang/String;)Z"⟩ prog_6_method_10_code 4 (some .boolean) ∈ pm_tb := List.mem_filter.mpr ⟨(List.mem_append_right (k2_sels lw_privs) (List.mem_append_right _ (List.mem_append_left _ (List.mem_of_getElem? (l := tables_1_2) (i := 182) rfl)))), rfl⟩
theorem cw_73 : Cond.code ⟨"IllLight$Reader", "nameOf", "(I)Ljava/lang/String;"⟩ prog_6_method_11_code 1 (some (.object "java/lang/String")) ∈ pm_tb := List.mem_filter.mpr ⟨(List.mem_append_right (k2_sels lw_privs) (List.mem_append_right _ (List.mem_append_left _ (List.mem_of_getElem? (l := tables_1_2) (i := 157) rfl)))), rfl⟩
theorem cw_74 : Cond.code ⟨"IllLight$Reader", "numberHere", "([I)I"⟩ prog_6_method_12_code 4 (some .int) ∈ pm_tb := List.mem_filter.mpr ⟨(List.mem_append_right (k2_sels lw_privs) (List.mem_append_right _ (List.mem_append_right _ (List.mem_append_left _ (List.mem_of_getElem? (l := tables_1_3) (i := 14) rfl))))), rfl⟩
theorem cw_75 : Cond.code ⟨"IllLight$Reader", "least", "(I)I"⟩ prog_6_method_13_code 1 (some .int) ∈ pm_tb := List.mem_filter.mpr ⟨(List.mem_append_right (k2_sels lw_privs) (List.mem_append_right _ (List.mem_append_right _ (List.mem_append_left _ (List.mem_of_getElem? (l := tables_1_3) (i := 17) rfl))))), rfl⟩
theorem cw_76 : Cond.code ⟨"IllLight$Reader", "isKind", "(I)Z"⟩ prog_6_method_14_code 1 (some .boolean) ∈ pm_tb := List.mem_filter.mpr ⟨(List.mem_append_right (k2_sels lw_privs) (List.mem_append_right _ (List.mem_append_left _ (List.mem_of_getElem? (l := tables_1_2) (i := 237) rfl)))), rfl⟩
theorem cw_77 : Cond.code ⟨"IllLight$Reader", "isDeed", "(I)Z"⟩ prog_6_method_15_code 1 (some .boolean) ∈ pm_tb := List.mem_filter.mpr ⟨(List.mem_append_right (k2_sels lw_privs) (List.mem_append_right _ (List.mem_append_right _ (List.mem_append_left _ (List.mem_of_getElem? (l := tables_1_3) (i := 4) rfl))))), rfl⟩
theorem cw_78 : Cond.code ⟨"IllLight$Reader", "noteTooMany", "(I)V"⟩ prog_6_method_16_code 4 none ∈ pm_tb := List.mem_filter.mpr ⟨(List.mem_append_right (k2_sels lw_privs) (List.mem_append_right _ (List.mem_append_left _ (List.mem_of_getElem? (l := tables_1_2) (i := 234) rfl)))), rfl⟩
theorem cw_79 : Cond.code ⟨"IllLight$Reader", "tell", "(I)V"⟩ prog_6_method_17_code 2 none ∈ pm_tb := List.mem_filter.mpr ⟨(List.mem_append_right (k2_sels lw_privs) (List.mem_append_right _ (List.mem_append_right _ (List.mem_append_left _ (List.mem_of_getElem? (l := tables_1_3) (i := 23) rfl))))), rfl⟩
theorem cw_80 : Cond.code ⟨"IllLight$Reader", "tellMan", "(I)V"⟩ prog_6_method_18_code 2 none ∈ pm_tb := List.mem_filter.mpr ⟨(List.mem_append_right (k2_sels lw_privs) (List.mem_append_right _ (List.mem_append_right _ (List.mem_append_left _ (List.mem_of_getElem? (l := tables_1_3) (i := 43) rfl))))), rfl⟩
theorem cw_81 : Cond.code ⟨"IllLight$Reader", "tellCoast", "(I)V"⟩ prog_6_method_19_code 3 none ∈ pm_tb := List.mem_filter.mpr ⟨(List.mem_append_right (k2_sels lw_privs) (List.mem_append_right _ (List.mem_append_right _ (List.mem_append_left _ (List.mem_of_getElem? (l := tables_1_3) (i := 55) rfl))))), rfl⟩
theorem cw_82 : Cond.code ⟨"IllLight$Reader", "tellLog", "(I)V"⟩ prog_6_method_20_code 2 none ∈ pm_tb := List.mem_filter.mpr ⟨(List.mem_append_right (k2_sels lw_privs) (List.mem_append_right _ (List.mem_append_right _ (List.mem_append_left _ (List.mem_of_getElem? (l := tables_1_3) (i := 31) rfl))))), rfl⟩
theorem cw_83 : Cond.code ⟨"IllLight$Reader", "lookForWhatIsNotThere", "(I)V"⟩ prog_6_method_21_code 2 none ∈ pm_tb := List.mem_filter.mpr ⟨(List.mem_append_right (k2_sels lw_privs) (List.mem_append_right _ (List.mem_append_right _ (List.mem_append_left _ (List.mem_of_getElem? (l := tables_1_3) (i := 67) rfl))))), rfl⟩
theorem cw_84 : Cond.code ⟨"IllLight$Rows", "prize", "(LIllLight$Coast;I)I"⟩ prog_7_method_2_code 4 (some .int) ∈ pm_tb := List.mem_filter.mpr ⟨(List.mem_append_right (k2_sels lw_privs) (List.mem_append_right _ (List.mem_append_right _ (List.mem_append_right _ (List.mem_append_left _ (List.mem_of_getElem? (l := tables_1_4) (i := 137) rfl)))))), rfl⟩
theorem cw_85 : Cond.code ⟨"IllLight$Rows", "pirateWins", "(LIllLight$Coast;III)I"⟩ prog_7_method_3_code 4 (some .int) ∈ pm_tb := List.mem_filter.mpr ⟨(List.mem_append_right (k2_sels lw_privs) (List.mem_append_right _ (List.mem_append_right _ (List.mem_append_right _ (List.mem_append_left _ (List.mem_of_getElem? (l := tables_1_4) (i := 133) rfl)))))), rfl⟩
theorem cw_86 : Cond.code ⟨"IllLight$Rows", "guardWins", "(LIllLight$Coast;III)I"⟩ prog_7_method_4_code 4 (some .int) ∈ pm_tb := List.mem_filter.mpr ⟨(List.mem_append_right (k2_sels lw_privs) (List.mem_append_right _ (List.mem_append_right _ (List.mem_append_right _ (List.mem_append_left _ (List.mem_of_getElem? (l := tables_1_4) (i := 153) rfl)))))), rfl⟩
theorem cw_87 : Cond.code ⟨"IllLight$Rows", "isRest", "(LIllLight$Coast;III)Z"⟩ prog_7_method_5_code 7 (some .boolean) ∈ pm_tb := List.mem_filter.mpr ⟨(List.mem_append_right (k2_sels lw_privs) (List.mem_append_right _ (List.mem_append_right _ (List.mem_append_right _ (List.mem_append_left _ (List.mem_of_getElem? (l := tables_1_4) (i := 150) rfl)))))), rfl⟩
theorem cw_88 : Cond.code ⟨"IllLight$Rows", "rests", "(LIllLight$Coast;I)I"⟩ prog_7_method_6_code 4 (some .int) ∈ pm_tb := List.mem_filter.mpr ⟨(List.mem_append_right (k2_sels lw_privs) (List.mem_append_right _ (List.mem_append_right _ (List.mem_append_right _ (List.mem_append_left _ (List.mem_of_getElem? (l := tables_1_4) (i := 147) rfl)))))), rfl⟩
theorem cw_89 : Cond.code ⟨"IllLight$Rows", "restAt", "(LIllLight$Coast;II)I"⟩ prog_7_method_7_code 5 (some .int) ∈ pm_tb := List.mem_filter.mpr ⟨(List.mem_append_right (k2_sels lw_privs) (List.mem_append_right _ (List.mem_append_right _ (List.mem_append_right _ (List.mem_append_left _ (List.mem_of_getElem? (l := tables_1_4) (i := 156) rfl)))))), rfl⟩
theorem cw_90 : Cond.code ⟨"IllLight$Rows", "safest", "(LIllLight$Coast;I)I"⟩ prog_7_method_8_code 4 (some .int) ∈ pm_tb := List.mem_filter.mpr ⟨(List.mem_append_right (k2_sels lw_privs) (List.mem_append_right _ (List.mem_append_right _ (List.mem_append_right _ (List.mem_append_left _ (List.mem_of_getElem? (l := tables_1_4) (i := 127) rfl)))))), rfl⟩
theorem cw_91 : Cond.code ⟨"IllLight$Rows", "leastWon", "(LIllLight$Coast;II)I"⟩ prog_7_method_9_code 5 (some .int) ∈ pm_tb := List.mem_filter.mpr ⟨(List.mem_append_right (k2_sels lw_privs) (List.mem_append_right _ (List.mem_append_right _ (List.mem_append_right _ (List.mem_append_left _ (List.mem_of_getElem? (l := tables_1_4) (i := 130) rfl)))))), rfl⟩
theorem cw_92 : Cond.code ⟨"IllLight$Sea", "spread", "(JJ)J"⟩ prog_8_method_2_code 6 (some .long) ∈ pm_tb := List.mem_filter.mpr ⟨(List.mem_append_right (k2_sels lw_privs) (List.mem_append_right _ (List.mem_append_right _ (List.mem_append_left _ (List.mem_of_getElem? (l := tables_1_3) (i := 229) rfl))))), rfl⟩
theorem cw_93 : Cond.code ⟨"IllLight$Sea", "around", "(IIJ)J"⟩ prog_8_method_3_code 7 (some .long) ∈ pm_tb := List.mem_filter.mpr ⟨(List.mem_append_right (k2_sels lw_privs) (List.mem_append_right _ (List.mem_append_right _ (List.mem_append_left _ (List.mem_of_getElem? (l := tables_1_3) (i := 226) rfl))))), rfl⟩
theorem cw_94 : Cond.code ⟨"IllLight$Sea", "chart", "(LIllLight$Coast;II)V"⟩ prog_8_method_4_code 4 none ∈ pm_tb := List.mem_filter.mpr ⟨(List.mem_append_right (k2_sels lw_privs) (List.mem_append_right _ (List.mem_append_right _ (List.mem_append_right _ (List.mem_append_left _ (List.mem_of_getElem? (l := tables_1_4) (i := 41) rfl)))))), rfl⟩
theorem cw_95 : Cond.code ⟨"IllLight$Sea", "afterHour", "(JII)J"⟩ prog_8_method_5_code 6 (some .long) ∈ pm_tb := List.mem_filter.mpr ⟨(List.mem_append_right (k2_sels lw_privs) (List.mem_append_right _ (List.mem_append_right _ (List.mem_append_right _ (List.mem_append_left _ (List.mem_of_getElem? (l := tables_1_4) (i := 59) rfl)))))), rfl⟩
theorem cw_96 : Cond.code ⟨"IllLight$Sea", "fewest", "(III)I"⟩ prog_8_method_6_code 7 (some .int) ∈ pm_tb := List.mem_filter.mpr ⟨(List.mem_append_right (k2_sels lw_privs) (List.mem_append_right _ (List.mem_append_right _ (List.mem_append_right _ (List.mem_append_left _ (List.mem_of_getElem? (l := tables_1_4) (i := 55) rfl)))))), rfl⟩
theorem cw_97 : Cond.code ⟨"IllLight$Sea", "comes", "(III)Z"⟩ prog_8_method_7_code 4 (some .boolean) ∈ pm_tb := List.mem_filter.mpr ⟨(List.mem_append_right (k2_sels lw_privs) (List.mem_append_right _ (List.mem_append_right _ (List.mem_append_right _ (List.mem_append_left _ (List.mem_of_getElem? (l := tables_1_4) (i := 100) rfl)))))), rfl⟩
theorem cw_98 : Cond.code ⟨"IllLight$Sea", "reached", "(II)I"⟩ prog_8_method_8_code 8 (some .int) ∈ pm_tb := List.mem_filter.mpr ⟨(List.mem_append_right (k2_sels lw_privs) (List.mem_append_right _ (List.mem_append_right _ (List.mem_append_right _ (List.mem_append_left _ (List.mem_of_getElem? (l := tables_1_4) (i := 70) rfl)))))), rfl⟩
theorem cw_99 : Cond.code ⟨"IllLight$Sea", "thereAndBack", "(II)I"⟩ prog_8_method_9_code 8 (some .int) ∈ pm_tb := List.mem_filter.mpr ⟨(List.mem_append_right (k2_sels lw_privs) (List.mem_append_right _ (List.mem_append_right _ (List.mem_append_right _ (List.mem_append_right _ (List.mem_append_left _ (List.mem_of_getElem? (l := tables_1_5) (i := 55) rfl))))))), rfl⟩
theorem cw_100 : Cond.code ⟨"IllLight$Sea", "look", "(LIllLight$Coast;I)V"⟩ prog_8_method_10_code 4 none ∈ pm_tb := List.mem_filter.mpr ⟨(List.mem_append_right (k2_sels lw_privs) (List.mem_append_right _ (List.mem_append_right _ (List.mem_append_right _ (List.mem_append_right _ (List.mem_append_left _ (List.mem_of_getElem? (l := tables_1_5) (i := 63) rfl))))))), rfl⟩
theorem cw_101 : Cond.code ⟨"IllLight$Sea", "bestFor", "(J)I"⟩ prog_8_method_11_code 5 (some .int) ∈ pm_tb := List.mem_filter.mpr ⟨(List.mem_append_right (k2_sels lw_privs) (List.mem_append_right _ (List.mem_append_right _ (List.mem_append_right _ (List.mem_append_right _ (List.mem_append_left _ (List.mem_of_getElem? (l := tables_1_5) (i := 71) rfl))))))), rfl⟩
theorem cw_102 : Cond.code ⟨"IllLight$Sea", "bestPair", "()I"⟩ prog_8_method_12_code 6 (some .int) ∈ pm_tb := List.mem_filter.mpr ⟨(List.mem_append_right (k2_sels lw_privs) (List.mem_append_right _ (List.mem_append_right _ (List.mem_append_right _ (List.mem_append_right _ (List.mem_append_left _ (List.mem_of_getElem? (l := tables_1_5) (i := 75) rfl))))))), rfl⟩
theorem cw_103 : Cond.code ⟨"IllLight$Sea", "seenByBoth", "(I)I"⟩ prog_8_method_13_code 4 (some .int) ∈ pm_tb := List.mem_filter.mpr ⟨(List.mem_append_right (k2_sels lw_privs) (List.mem_append_right _ (List.mem_append_right _ (List.mem_append_right _ (List.mem_append_right _ (List.mem_append_left _ (List.mem_of_getElem? (l := tables_1_5) (i := 79) rfl))))))), rfl⟩
theorem cw_104 : Cond.code ⟨"IllLight$Told", "held", "(I)I"⟩ prog_9_method_2_code 2 (some .int) ∈ pm_tb := List.mem_filter.mpr ⟨(List.mem_append_right (k2_sels lw_privs) (List.mem_append_right _ (List.mem_append_left _ (List.mem_of_getElem? (l := tables_1_2) (i := 118) rfl)))), rfl⟩
theorem cw_105 : Cond.code ⟨"IllLight$Told", "put", "(I)V"⟩ prog_9_method_3_code 3 none ∈ pm_tb := List.mem_filter.mpr ⟨(List.mem_append_right (k2_sels lw_privs) (List.mem_append_right _ (List.mem_append_left _ (List.mem_of_getElem? (l := tables_1_2) (i := 106) rfl)))), rfl⟩
theorem cw_106 : Cond.code ⟨"IllLight$Told", "take", "(LIllLight$Reader;II)V"⟩ prog_9_method_4_code 4 none ∈ pm_tb := List.mem_filter.mpr ⟨(List.mem_append_right (k2_sels lw_privs) (List.mem_append_right _ (List.mem_append_right _ (List.mem_append_left _ (List.mem_of_getElem? (l := tables_1_3) (i := 71) rfl))))), rfl⟩
theorem cw_107 : Cond.code ⟨"IllLight$Told", "copyFrom", "(LIllLight$Told;)V"⟩ prog_9_method_5_code 3 none ∈ pm_tb := List.mem_filter.mpr ⟨(List.mem_append_right (k2_sels lw_privs) (List.mem_append_right _ (List.mem_append_right _ (List.mem_append_right _ (List.mem_append_right _ (List.mem_append_left _ (List.mem_of_getElem? (l := tables_1_5) (i := 111) rfl))))))), rfl⟩
theorem cw_108 : Cond.code ⟨"IllLight", "feed", "(IIIII)I"⟩ prog_1_method_2_code 6 (some .int) ∈ pm_tb := List.mem_filter.mpr ⟨(List.mem_append_right (k2_sels lw_privs) (List.mem_append_right _ (List.mem_append_left _ (List.mem_of_getElem? (l := tables_1_2) (i := 102) rfl)))), rfl⟩
theorem cw_109 : Cond.code ⟨"IllLight", "end", "(I)I"⟩ prog_1_method_3_code 2 (some .int) ∈ pm_tb := List.mem_filter.mpr ⟨(List.mem_append_right (k2_sels lw_privs) (List.mem_append_right _ (List.mem_append_left _ (List.mem_of_getElem? (l := tables_1_2) (i := 110) rfl)))), rfl⟩
theorem cw_110 : Cond.code ⟨"IllLight", "text", "(II)I"⟩ prog_1_method_4_code 7 (some .int) ∈ pm_tb := List.mem_filter.mpr ⟨(List.mem_append_right (k2_sels lw_privs) (List.mem_append_right _ (List.mem_append_left _ (List.mem_of_getElem? (l := tables_1_2) (i := 114) rfl)))), rfl⟩
theorem cw_111 : Cond.code ⟨"IllLight", "fault", "(I)I"⟩ prog_1_method_5_code 2 (some .int) ∈ pm_tb := List.mem_filter.mpr ⟨(List.mem_append_right (k2_sels lw_privs) (List.mem_append_right _ (List.mem_append_right _ (List.mem_append_left _ (List.mem_of_getElem? (l := tables_1_3) (i := 95) rfl))))), rfl⟩
theorem cw_112 : Cond.code ⟨"IllLight", "coast", "(II)I"⟩ prog_1_method_6_code 4 (some .int) ∈ pm_tb := List.mem_filter.mpr ⟨(List.mem_append_right (k2_sels lw_privs) (List.mem_append_right _ (List.mem_append_right _ (List.mem_append_left _ (List.mem_of_getElem? (l := tables_1_3) (i := 99) rfl))))), rfl⟩
theorem cw_113 : Cond.code ⟨"IllLight", "man", "(IIII)I"⟩ prog_1_method_7_code 7 (some .int) ∈ pm_tb := List.mem_filter.mpr ⟨(List.mem_append_right (k2_sels lw_privs) (List.mem_append_right _ (List.mem_append_right _ (List.mem_append_left _ (List.mem_of_getElem? (l := tables_1_3) (i := 131) rfl))))), rfl⟩
theorem cw_114 : Cond.code ⟨"IllLight", "deed", "(III)I"⟩ prog_1_method_8_code 5 (some .int) ∈ pm_tb := List.mem_filter.mpr ⟨(List.mem_append_right (k2_sels lw_privs) (List.mem_append_right _ (List.mem_append_right _ (List.mem_append_left _ (List.mem_of_getElem? (l := tables_1_3) (i := 139) rfl))))), rfl⟩
theorem cw_115 : Cond.code ⟨"IllLight", "light", "(IIII)I"⟩ prog_1_method_9_code 7 (some .int) ∈ pm_tb := List.mem_filter.mpr ⟨(List.mem_append_right (k2_sels lw_privs) (List.mem_append_right _ (List.mem_append_right _ (List.mem_append_left _ (List.mem_of_getElem? (l := tables_1_3) (i := 151) rfl))))), rfl⟩
theorem cw_116 : Cond.code ⟨"IllLight", "stop", "(II)I"⟩ prog_1_method_10_code 5 (some .int) ∈ pm_tb := List.mem_filter.mpr ⟨(List.mem_append_right (k2_sels lw_privs) (List.mem_append_right _ (List.mem_append_right _ (List.mem_append_left _ (List.mem_of_getElem? (l := tables_1_3) (i := 177) rfl))))), rfl⟩
theorem cw_117 : Cond.code ⟨"IllLight", "state", "(IIII)I"⟩ prog_1_method_11_code 7 (some .int) ∈ pm_tb := List.mem_filter.mpr ⟨(List.mem_append_right (k2_sels lw_privs) (List.mem_append_right _ (List.mem_append_right _ (List.mem_append_right _ (List.mem_append_left _ (List.mem_of_getElem? (l := tables_1_4) (i := 14) rfl)))))), rfl⟩
theorem cw_118 : Cond.code ⟨"IllLight", "way", "(III)I"⟩ prog_1_method_12_code 5 (some .int) ∈ pm_tb := List.mem_filter.mpr ⟨(List.mem_append_right (k2_sels lw_privs) (List.mem_append_right _ (List.mem_append_right _ (List.mem_append_right _ (List.mem_append_left _ (List.mem_of_getElem? (l := tables_1_4) (i := 33) rfl)))))), rfl⟩
theorem cw_119 : Cond.code ⟨"IllLight", "free", "(IIII)I"⟩ prog_1_method_13_code 6 (some .int) ∈ pm_tb := List.mem_filter.mpr ⟨(List.mem_append_right (k2_sels lw_privs) (List.mem_append_right _ (List.mem_append_right _ (List.mem_append_right _ (List.mem_append_left _ (List.mem_of_getElem? (l := tables_1_4) (i := 63) rfl)))))), rfl⟩
theorem cw_120 : Cond.code ⟨"IllLight", "helps", "(IIIII)I"⟩ prog_1_method_14_code 7 (some .int) ∈ pm_tb := List.mem_filter.mpr ⟨(List.mem_append_right (k2_sels lw_privs) (List.mem_append_right _ (List.mem_append_right _ (List.mem_append_right _ (List.mem_append_left _ (List.mem_of_getElem? (l := tables_1_4) (i := 81) rfl)))))), rfl⟩
theorem cw_121 : Cond.code ⟨"IllLight", "rest", "(III)I"⟩ prog_1_method_15_code 5 (some .int) ∈ pm_tb := List.mem_filter.mpr ⟨(List.mem_append_right (k2_sels lw_privs) (List.mem_append_right _ (List.mem_append_right _ (List.mem_append_right _ (List.mem_append_left _ (List.mem_of_getElem? (l := tables_1_4) (i := 121) rfl)))))), rfl⟩
theorem cw_122 : Cond.code ⟨"IllLight", "premium", "(IIIZ)J"⟩ prog_1_method_16_code 10 (some .long) ∈ pm_tb := List.mem_filter.mpr ⟨(List.mem_append_right (k2_sels lw_privs) (List.mem_append_right _ (List.mem_append_right _ (List.mem_append_right _ (List.mem_append_left _ (List.mem_of_getElem? (l := tables_1_4) (i := 160) rfl)))))), rfl⟩
theorem cw_123 : Cond.code ⟨"IllLight", "log", "(II)I"⟩ prog_1_method_17_code 4 (some .int) ∈ pm_tb := List.mem_filter.mpr ⟨(List.mem_append_right (k2_sels lw_privs) (List.mem_append_right _ (List.mem_append_right _ (List.mem_append_right _ (List.mem_append_left _ (List.mem_of_getElem? (l := tables_1_4) (i := 172) rfl)))))), rfl⟩
theorem cw_124 : Cond.code ⟨"IllLight", "fits", "(II)I"⟩ prog_1_method_18_code 6 (some .int) ∈ pm_tb := List.mem_filter.mpr ⟨(List.mem_append_right (k2_sels lw_privs) (List.mem_append_right _ (List.mem_append_right _ (List.mem_append_right _ (List.mem_append_left _ (List.mem_of_getElem? (l := tables_1_4) (i := 192) rfl)))))), rfl⟩
theorem cw_125 : Cond.code ⟨"IllLight", "belief", "(IIZ)J"⟩ prog_1_method_19_code 5 (some .long) ∈ pm_tb := List.mem_filter.mpr ⟨(List.mem_append_right (k2_sels lw_privs) (List.mem_append_right _ (List.mem_append_right _ (List.mem_append_right _ (List.mem_append_left _ (List.mem_of_getElem? (l := tables_1_4) (i := 236) rfl)))))), rfl⟩
theorem cw_126 : Cond.code ⟨"IllLight", "drawn", "(IIII)I"⟩ prog_1_method_20_code 6 (some .int) ∈ pm_tb := List.mem_filter.mpr ⟨(List.mem_append_right (k2_sels lw_privs) (List.mem_append_right _ (List.mem_append_right _ (List.mem_append_right _ (List.mem_append_right _ (List.mem_append_left _ (List.mem_of_getElem? (l := tables_1_5) (i := 9) rfl))))))), rfl⟩
theorem cw_127 : Cond.code ⟨"IllLight", "hours", "(III)I"⟩ prog_1_method_21_code 5 (some .int) ∈ pm_tb := List.mem_filter.mpr ⟨(List.mem_append_right (k2_sels lw_privs) (List.mem_append_right _ (List.mem_append_right _ (List.mem_append_right _ (List.mem_append_right _ (List.mem_append_left _ (List.mem_of_getElem? (l := tables_1_5) (i := 22) rfl))))))), rfl⟩
theorem cw_128 : Cond.code ⟨"IllLight", "shade", "(II)I"⟩ prog_1_method_22_code 4 (some .int) ∈ pm_tb := List.mem_filter.mpr ⟨(List.mem_append_right (k2_sels lw_privs) (List.mem_append_right _ (List.mem_append_right _ (List.mem_append_right _ (List.mem_append_right _ (List.mem_append_left _ (List.mem_of_getElem? (l := tables_1_5) (i := 38) rfl))))))), rfl⟩
theorem cw_129 : Cond.code ⟨"IllLight", "leaves", "(IIII)I"⟩ prog_1_method_23_code 6 (some .int) ∈ pm_tb := List.mem_filter.mpr ⟨(List.mem_append_right (k2_sels lw_privs) (List.mem_append_right _ (List.mem_append_right _ (List.mem_append_right _ (List.mem_append_right _ (List.mem_append_left _ (List.mem_of_getElem? (l := tables_1_5) (i := 47) rfl))))))), rfl⟩
theorem cw_130 : Cond.code ⟨"IllLight", "back", "(III)I"⟩ prog_1_method_24_code 5 (some .int) ∈ pm_tb := List.mem_filter.mpr ⟨(List.mem_append_right (k2_sels lw_privs) (List.mem_append_right _ (List.mem_append_right _ (List.mem_append_right _ (List.mem_append_right _ (List.mem_append_left _ (List.mem_of_getElem? (l := tables_1_5) (i := 51) rfl))))))), rfl⟩
theorem cw_131 : Cond.code ⟨"IllLight", "watch", "(III)I"⟩ prog_1_method_25_code 6 (some .int) ∈ pm_tb := List.mem_filter.mpr ⟨(List.mem_append_right (k2_sels lw_privs) (List.mem_append_right _ (List.mem_append_right _ (List.mem_append_right _ (List.mem_append_right _ (List.mem_append_left _ (List.mem_of_getElem? (l := tables_1_5) (i := 59) rfl))))))), rfl⟩
theorem cw_132 : Cond.code ⟨"IllLight", "mutiny", "(IIIZ)I"⟩ prog_1_method_26_code 6 (some .int) ∈ pm_tb := List.mem_filter.mpr ⟨(List.mem_append_right (k2_sels lw_privs) (List.mem_append_right _ (List.mem_append_right _ (List.mem_append_right _ (List.mem_append_right _ (List.mem_append_left _ (List.mem_of_getElem? (l := tables_1_5) (i := 83) rfl))))))), rfl⟩
theorem cw_133 : Cond.code ⟨"IllLight", "next", "(IIZ)J"⟩ prog_1_method_27_code 5 (some .long) ∈ pm_tb := List.mem_filter.mpr ⟨(List.mem_append_right (k2_sels lw_privs) (List.mem_append_right _ (List.mem_append_right _ (List.mem_append_right _ (List.mem_append_right _ (List.mem_append_left _ (List.mem_of_getElem? (l := tables_1_5) (i := 95) rfl))))))), rfl⟩
theorem cw_134 : Cond.code ⟨"IllLight", "both", "(IIIZ)J"⟩ prog_1_method_28_code 6 (some .long) ∈ pm_tb := List.mem_filter.mpr ⟨(List.mem_append_right (k2_sels lw_privs) (List.mem_append_right _ (List.mem_append_right _ (List.mem_append_right _ (List.mem_append_right _ (List.mem_append_left _ (List.mem_of_getElem? (l := tables_1_5) (i := 99) rfl))))))), rfl⟩
theorem cw_135 : Cond.code ⟨"IllLight", "count", "(I)I"⟩ prog_1_method_29_code 2 (some .int) ∈ pm_tb := List.mem_filter.mpr ⟨(List.mem_append_right (k2_sels lw_privs) (List.mem_append_right _ (List.mem_append_right _ (List.mem_append_right _ (List.mem_append_right _ (List.mem_append_left _ (List.mem_of_getElem? (l := tables_1_5) (i := 103) rfl))))))), rfl⟩
theorem cw_136 : Cond.code ⟨"IllLight", "image", "(I)Z"⟩ prog_1_method_30_code 2 (some .boolean) ∈ pm_tb := List.mem_filter.mpr ⟨(List.mem_append_right (k2_sels lw_privs) (List.mem_append_right _ (List.mem_append_right _ (List.mem_append_right _ (List.mem_append_right _ (List.mem_append_left _ (List.mem_of_getElem? (l := tables_1_5) (i := 107) rfl))))))), rfl⟩
theorem cw_137 : Cond.code ⟨"IllLight", "again", "(I)Z"⟩ prog_1_method_31_code 2 (some .boolean) ∈ pm_tb := List.mem_filter.mpr ⟨(List.mem_append_right (k2_sels lw_privs) (List.mem_append_right _ (List.mem_append_right _ (List.mem_append_right _ (List.mem_append_right _ (List.mem_append_left _ (List.mem_of_getElem? (l := tables_1_5) (i := 116) rfl))))))), rfl⟩
theorem cw_138 : Cond.code ⟨"IllLight", "coastAt", "(I)LIllLight$Coast;"⟩ prog_1_method_32_code 2 (some (.object "IllLight$Coast")) ∈ pm_tb := List.mem_filter.mpr ⟨(List.mem_append_right (k2_sels lw_privs) (List.mem_append_right _ (List.mem_append_right _ (List.mem_append_left _ (List.mem_of_getElem? (l := tables_1_3) (i := 103) rfl))))), rfl⟩
theorem cw_139 : Cond.code ⟨"IllLight", "nightAt", "(I)LIllLight$Night;"⟩ prog_1_method_33_code 2 (some (.object "IllLight$Night")) ∈ pm_tb := List.mem_filter.mpr ⟨(List.mem_append_right (k2_sels lw_privs) (List.mem_append_right _ (List.mem_append_right _ (List.mem_append_left _ (List.mem_of_getElem? (l := tables_1_3) (i := 143) rfl))))), rfl⟩
theorem cw_140 : Cond.code ⟨"IllLight", "logAt", "(I)LIllLight$Log;"⟩ prog_1_method_34_code 2 (some (.object "IllLight$Log")) ∈ pm_tb := List.mem_filter.mpr ⟨(List.mem_append_right (k2_sels lw_privs) (List.mem_append_right _ (List.mem_append_right _ (List.mem_append_right _ (List.mem_append_left _ (List.mem_of_getElem? (l := tables_1_4) (i := 176) rfl)))))), rfl⟩
theorem cw_141 : Cond.code ⟨"IllLight", "isHour", "(I)Z"⟩ prog_1_method_35_code 1 (some .boolean) ∈ pm_tb := List.mem_filter.mpr ⟨(List.mem_append_right (k2_sels lw_privs) (List.mem_append_right _ (List.mem_append_right _ (List.mem_append_left _ (List.mem_of_getElem? (l := tables_1_3) (i := 155) rfl))))), rfl⟩
theorem cw_142 : Cond.code ⟨"IllLight", "isLength", "(I)Z"⟩ prog_1_method_36_code 1 (some .boolean) ∈ pm_tb := List.mem_filter.mpr ⟨(List.mem_append_right (k2_sels lw_privs) (List.mem_append_right _ (List.mem_append_right _ (List.mem_append_right _ (List.mem_append_left _ (List.mem_of_getElem? (l := tables_1_4) (i := 66) rfl)))))), rfl⟩
theorem cw_143 : Cond.code ⟨"IllLight", "isRange", "(I)Z"⟩ prog_1_method_37_code 1 (some .boolean) ∈ pm_tb := List.mem_filter.mpr ⟨(List.mem_append_right (k2_sels lw_privs) (List.mem_append_right _ (List.mem_append_right _ (List.mem_append_right _ (List.mem_append_left _ (List.mem_of_getElem? (l := tables_1_4) (i := 124) rfl)))))), rfl⟩
theorem cw_144 : Cond.code ⟨"IllLight", "isVoyage", "(LIllLight$Coast;II)Z"⟩ prog_1_method_38_code 3 (some .boolean) ∈ pm_tb := List.mem_filter.mpr ⟨(List.mem_append_right (k2_sels lw_privs) (List.mem_append_right _ (List.mem_append_right _ (List.mem_append_right _ (List.mem_append_left _ (List.mem_of_getElem? (l := tables_1_4) (i := 36) rfl)))))), rfl⟩
theorem cw_145 : Cond.code ⟨"IllLight", "fewestMen", "(LIllLight$Coast;IIZ)I"⟩ prog_1_method_39_code 9 (some .int) ∈ pm_tb := List.mem_filter.mpr ⟨(List.mem_append_right (k2_sels lw_privs) (List.mem_append_right _ (List.mem_append_right _ (List.mem_append_right _ (List.mem_append_left _ (List.mem_of_getElem? (l := tables_1_4) (i := 85) rfl)))))), rfl⟩
theorem cw_146 : Cond.code ⟨"IllLight", "leastIll", "(LIllLight$Coast;II)I"⟩ prog_1_method_40_code 5 (some .int) ∈ pm_tb := List.mem_filter.mpr ⟨(List.mem_append_right (k2_sels lw_privs) (List.mem_append_right _ (List.mem_append_right _ (List.mem_append_right _ (List.mem_append_left _ (List.mem_of_getElem? (l := tables_1_4) (i := 105) rfl)))))), rfl⟩
theorem cw_147 : Cond.code ⟨"IllLight", "leastThrown", "(LIllLight$Coast;II)I"⟩ prog_1_method_41_code 5 (some .int) ∈ pm_tb := List.mem_filter.mpr ⟨(List.mem_append_right (k2_sels lw_privs) (List.mem_append_right _ (List.mem_append_right _ (List.mem_append_right _ (List.mem_append_left _ (List.mem_of_getElem? (l := tables_1_4) (i := 110) rfl)))))), rfl⟩
theorem cw_148 : Cond.code ⟨"IllLight", "hoursToLeave", "(LIllLight$Coast;II)I"⟩ prog_1_method_42_code 7 (some .int) ∈ pm_tb := List.mem_filter.mpr ⟨(List.mem_append_right (k2_sels lw_privs) (List.mem_append_right _ (List.mem_append_right _ (List.mem_append_right _ (List.mem_append_left _ (List.mem_of_getElem? (l := tables_1_4) (i := 114) rfl)))))), rfl⟩
theorem cw_149 : Cond.code ⟨"IllLight", "firstOf", "(I)I"⟩ prog_1_method_43_code 2 (some .int) ∈ pm_tb := List.mem_filter.mpr ⟨(List.mem_append_right (k2_sels lw_privs) (List.mem_append_right _ (List.mem_append_right _ (List.mem_append_right _ (List.mem_append_left _ (List.mem_of_getElem? (l := tables_1_4) (i := 117) rfl)))))), rfl⟩
theorem cw_150 : Cond.code ⟨"IllLight", "longestRow", "(I)I"⟩ prog_1_method_44_code 4 (some .int) ∈ pm_tb := List.mem_filter.mpr ⟨(List.mem_append_right (k2_sels lw_privs) (List.mem_append_right _ (List.mem_append_right _ (List.mem_append_right _ (List.mem_append_right _ (List.mem_append_left _ (List.mem_of_getElem? (l := tables_1_5) (i := 29) rfl))))))), rfl⟩
theorem cw_151 : Cond.code ⟨"IllLight", "leastTerms", "(JJZ)J"⟩ prog_1_method_45_code 7 (some .long) ∈ pm_tb := List.mem_filter.mpr ⟨(List.mem_append_right (k2_sels lw_privs) (List.mem_append_right _ (List.mem_append_right _ (List.mem_append_right _ (List.mem_append_left _ (List.mem_of_getElem? (l := tables_1_4) (i := 165) rfl)))))), rfl⟩
theorem cw_152 : Cond.code ⟨"IllLight", "commonDivisor", "(JJ)J"⟩ prog_1_method_46_code 7 (some .long) ∈ pm_tb := List.mem_filter.mpr ⟨(List.mem_append_right (k2_sels lw_privs) (List.mem_append_right _ (List.mem_append_right _ (List.mem_append_right _ (List.mem_append_left _ (List.mem_of_getElem? (l := tables_1_4) (i := 168) rfl)))))), rfl⟩
theorem cw_153 : Cond.code ⟨"IllLightModel", "isIn", "(III)Z"⟩ prog_11_method_2_code 3 (some .boolean) ∈ pm_tb := List.mem_filter.mpr ⟨(List.mem_append_right (k2_sels lw_privs) (List.mem_append_right _ (List.mem_append_right _ (List.mem_append_right _ (List.mem_append_right _ (List.mem_append_right _ (List.mem_append_left _ (List.mem_of_getElem? (l := tables_1_6) (i := 9) rfl)))))))), rfl⟩
theorem cw_154 : Cond.code ⟨"IllLightModel", "feed", "(IIIII)I"⟩ prog_11_method_3_code 8 (some .int) ∈ pm_tb := List.mem_filter.mpr ⟨(List.mem_append_right (k2_sels lw_privs) (List.mem_append_right _ (List.mem_append_right _ (List.mem_append_right _ (List.mem_append_right _ (List.mem_append_left _ (List.mem_of_getElem? (l := tables_1_5) (i := 238) rfl))))))), rfl⟩
theorem cw_155 : Cond.code ⟨"IllLightModel", "end", "(I)I"⟩ prog_11_method_4_code 2 (some .int) ∈ pm_tb := List.mem_filter.mpr ⟨(List.mem_append_right (k2_sels lw_privs) (List.mem_append_right _ (List.mem_append_right _ (List.mem_append_right _ (List.mem_append_right _ (List.mem_append_right _ (List.mem_append_left _ (List.mem_of_getElem? (l := tables_1_6) (i := 2) rfl)))))))), rfl⟩
theorem cw_156 : Cond.code ⟨"IllLightModel", "byteAt", "(I)I"⟩ prog_11_method_5_code 2 (some .int) ∈ pm_tb := List.mem_filter.mpr ⟨(List.mem_append_right (k2_sels lw_privs) (List.mem_append_right _ (List.mem_append_right _ (List.mem_append_right _ (List.mem_append_right _ (List.mem_append_right _ (List.mem_append_left _ (List.mem_of_getElem? (l := tables_1_6) (i := 21) rfl)))))))), rfl⟩
theorem cw_157 : Cond.code ⟨"IllLightModel", "isLetter", "(I)Z"⟩ prog_11_method_6_code 1 (some .boolean) ∈ pm_tb := List.mem_filter.mpr ⟨(List.mem_append_right (k2_sels lw_privs) (List.mem_append_right _ (List.mem_append_right _ (List.mem_append_right _ (List.mem_append_right _ (List.mem_append_right _ (List.mem_append_left _ (List.mem_of_getElem? (l := tables_1_6) (i := 24) rfl)))))))), rfl⟩
theorem cw_158 : Cond.code ⟨"IllLightModel", "isDigit", "(I)Z"⟩ prog_11_method_7_code 1 (some .boolean) ∈ pm_tb := List.mem_filter.mpr ⟨(List.mem_append_right (k2_sels lw_privs) (List.mem_append_right _ (List.mem_append_right _ (List.mem_append_right _ (List.mem_append_right _ (List.mem_append_right _ (List.mem_append_left _ (List.mem_of_getElem? (l := tables_1_6) (i := 39) rfl)))))))), rfl⟩
theorem cw_159 : Cond.code ⟨"IllLightModel", "four", "(IIII)J"⟩ prog_11_method_8_code 4 (some .long) ∈ pm_tb := List.mem_filter.mpr ⟨(List.mem_append_right (k2_sels lw_privs) (List.mem_append_right _ (List.mem_append_right _ (List.mem_append_right _ (List.mem_append_right _ (List.mem_append_right _ (List.mem_append_left _ (List.mem_of_getElem? (l := tables_1_6) (i := 32) rfl)))))))), rfl⟩
theorem cw_160 : Cond.code ⟨"IllLightModel", "eight", "(IIIIIIII)J"⟩ prog_11_method_9_code 8 (some .long) ∈ pm_tb := List.mem_filter.mpr ⟨(List.mem_append_right (k2_sels lw_privs) (List.mem_append_right _ (List.mem_append_right _ (List.mem_append_right _ (List.mem_append_right _ (List.mem_append_right _ (List.mem_append_left _ (List.mem_of_getElem? (l := tables_1_6) (i := 35) rfl)))))))), rfl⟩
theorem cw_161 : Cond.code ⟨"IllLightModel", "wordOf", "(J)I"⟩ prog_11_method_10_code 2 (some .int) ∈ pm_tb := List.mem_filter.mpr ⟨(List.mem_append_right (k2_sels lw_privs) (List.mem_append_right _ (List.mem_append_right _ (List.mem_append_right _ (List.mem_append_right _ (List.mem_append_right _ (List.mem_append_left _ (List.mem_of_getElem? (l := tables_1_6) (i := 29) rfl)))))))), rfl⟩
theorem cw_162 : Cond.code ⟨"IllLightModel", "advance", "()V"⟩ prog_11_method_11_code 4 none ∈ pm_tb := List.mem_filter.mpr ⟨(List.mem_append_right (k2_sels lw_privs) (List.mem_append_right _ (List.mem_append_right _ (List.mem_append_right _ (List.mem_append_right _ (List.mem_append_right _ (List.mem_append_left _ (List.mem_of_getElem? (l := tables_1_6) (i := 17) rfl)))))))), rfl⟩
theorem cw_163 : Cond.code ⟨"IllLightModel", "ends", "()V"⟩ prog_11_method_12_code 1 none ∈ pm_tb := List.mem_filter.mpr ⟨(List.mem_append_right (k2_sels lw_privs) (List.mem_append_right _ (List.mem_append_right _ (List.mem_append_right _ (List.mem_append_right _ (List.mem_append_right _ (List.mem_append_left _ (List.mem_of_getElem? (l := tables_1_6) (i := 51) rfl)))))))), rfl⟩
theorem cw_164 : Cond.code ⟨"IllLightModel", "also", "(II)V"⟩ prog_11_method_13_code 3 none ∈ pm_tb := List.mem_filter.mpr ⟨(List.mem_append_right (k2_sels lw_privs) (List.mem_append_right _ (List.mem_append_right _ (List.mem_append_right _ (List.mem_append_right _ (List.mem_append_right _ (List.mem_append_left _ (List.mem_of_getElem? (l := tables_1_6) (i := 59) rfl)))))))), rfl⟩
theorem cw_165 : Cond.code ⟨"IllLightModel", "numbered", "(II)I"⟩ prog_11_method_14_code 4 (some .int) ∈ pm_tb := List.mem_filter.mpr ⟨(List.mem_append_right (k2_sels lw_privs) (List.mem_append_right _ (List.mem_append_right _ (List.mem_append_right _ (List.mem_append_right _ (List.mem_append_right _ (List.mem_append_left _ (List.mem_of_getElem? (l := tables_1_6) (i := 55) rfl)))))))), rfl⟩
theorem cw_166 : Cond.code ⟨"IllLightModel", "takes", "(II)I"⟩ prog_11_method_15_code 4 (some .int) ∈ pm_tb := List.mem_filter.mpr ⟨(List.mem_append_right (k2_sels lw_privs) (List.mem_append_right _ (List.mem_append_right _ (List.mem_append_right _ (List.mem_append_right _ (List.mem_append_right _ (List.mem_append_left _ (List.mem_of_getElem? (l := tables_1_6) (i := 47) rfl)))))))), rfl⟩
theorem cw_167 : Cond.code ⟨"IllLightModel", "endsLine", "()V"⟩ prog_11_method_16_code 1 none ∈ pm_tb := List.mem_filter.mpr ⟨(List.mem_append_right (k2_sels lw_privs) (List.mem_append_right _ (List.mem_append_right _ (List.mem_append_right _ (List.mem_append_right _ (List.mem_append_right _ (List.mem_append_left _ (List.mem_of_getElem? (l := tables_1_6) (i := 83) rfl)))))))), rfl⟩
theorem cw_168 : Cond.code ⟨"IllLightModel", "cellTold", "()I"⟩ prog_11_method_17_code 3 (some .int) ∈ pm_tb := List.mem_filter.mpr ⟨(List.mem_append_right (k2_sels lw_privs) (List.mem_append_right _ (List.mem_append_right _ (List.mem_append_right _ (List.mem_append_right _ (List.mem_append_right _ (List.mem_append_left _ (List.mem_of_getElem? (l := tables_1_6) (i := 63) rfl)))))))), rfl⟩
theorem cw_169 : Cond.code ⟨"IllLightModel", "guardLine", "(I)V"⟩ prog_11_method_18_code 5 none ∈ pm_tb := List.mem_filter.mpr ⟨(List.mem_append_right (k2_sels lw_privs) (List.mem_append_right _ (List.mem_append_right _ (List.mem_append_right _ (List.mem_append_right _ (List.mem_append_right _ (List.mem_append_left _ (List.mem_of_getElem? (l := tables_1_6) (i := 67) rfl)))))))), rfl⟩
theorem cw_170 : Cond.code ⟨"IllLightModel", "shipLine", "(I)V"⟩ prog_11_method_19_code 7 none ∈ pm_tb := List.mem_filter.mpr ⟨(List.mem_append_right (k2_sels lw_privs) (List.mem_append_right _ (List.mem_append_right _ (List.mem_append_right _ (List.mem_append_right _ (List.mem_append_right _ (List.mem_append_left _ (List.mem_of_getElem? (l := tables_1_6) (i := 71) rfl)))))))), rfl⟩
theorem cw_171 : Cond.code ⟨"IllLightModel", "shipTold", "()I"⟩ prog_11_method_20_code 2 (some .int) ∈ pm_tb := List.mem_filter.mpr ⟨(List.mem_append_right (k2_sels lw_privs) (List.mem_append_right _ (List.mem_append_right _ (List.mem_append_right _ (List.mem_append_right _ (List.mem_append_right _ (List.mem_append_left _ (List.mem_of_getElem? (l := tables_1_6) (i := 79) rfl)))))))), rfl⟩
theorem cw_172 : Cond.code ⟨"IllLightModel", "manLine", "(II)V"⟩ prog_11_method_21_code 8 none ∈ pm_tb := List.mem_filter.mpr ⟨(List.mem_append_right (k2_sels lw_privs) (List.mem_append_right _ (List.mem_append_right _ (List.mem_append_right _ (List.mem_append_right _ (List.mem_append_right _ (List.mem_append_left _ (List.mem_of_getElem? (l := tables_1_6) (i := 75) rfl)))))))), rfl⟩
theorem cw_173 : Cond.code ⟨"IllLightModel", "coastLine", "()V"⟩ prog_11_method_22_code 3 none ∈ pm_tb := List.mem_filter.mpr ⟨(List.mem_append_right (k2_sels lw_privs) (List.mem_append_right _ (List.mem_append_right _ (List.mem_append_right _ (List.mem_append_right _ (List.mem_append_right _ (List.mem_append_left _ (List.mem_of_getElem? (l := tables_1_6) (i := 43) rfl)))))))), rfl⟩
theorem cw_174 : Cond.code ⟨"IllLightModel", "nightLine", "()V"⟩ prog_11_method_23_code 7 none ∈ pm_tb := List.mem_filter.mpr ⟨(List.mem_append_right (k2_sels lw_privs) (List.mem_append_right _ (List.mem_append_right _ (List.mem_append_right _ (List.mem_append_right _ (List.mem_append_right _ (List.mem_append_left _ (List.mem_of_getElem? (l := tables_1_6) (i := 87) rfl)))))))), rfl⟩
theorem cw_175 : Cond.code ⟨"IllLightModel", "logMan", "(I)V"⟩ prog_11_method_24_code 3 none ∈ pm_tb := List.mem_filter.mpr ⟨(List.mem_append_right (k2_sels lw_privs) (List.mem_append_right _ (List.mem_append_right _ (List.mem_append_right _ (List.mem_append_right _ (List.mem_append_right _ (List.mem_append_left _ (List.mem_of_getElem? (l := tables_1_6) (i := 95) rfl)))))))), rfl⟩
theorem cw_176 : Cond.code ⟨"IllLightModel", "logFact", "(IZ)V"⟩ prog_11_method_25_code 4 none ∈ pm_tb := List.mem_filter.mpr ⟨(List.mem_append_right (k2_sels lw_privs) (List.mem_append_right _ (List.mem_append_right _ (List.mem_append_right _ (List.mem_append_right _ (List.mem_append_right _ (List.mem_append_left _ (List.mem_of_getElem? (l := tables_1_6) (i := 99) rfl)))))))), rfl⟩
theorem cw_177 : Cond.code ⟨"IllLightModel", "logLine", "()V"⟩ prog_11_method_26_code 3 none ∈ pm_tb := List.mem_filter.mpr ⟨(List.mem_append_right (k2_sels lw_privs) (List.mem_append_right _ (List.mem_append_right _ (List.mem_append_right _ (List.mem_append_right _ (List.mem_append_right _ (List.mem_append_left _ (List.mem_of_getElem? (l := tables_1_6) (i := 91) rfl)))))))), rfl⟩
theorem cw_178 : Cond.code ⟨"IllLightModel", "placeOf", "(II)I"⟩ prog_11_method_27_code 2 (some .int) ∈ pm_tb := List.mem_filter.mpr ⟨(List.mem_append_right (k2_sels lw_privs) (List.mem_append_right _ (List.mem_append_right _ (List.mem_append_right _ (List.mem_append_right _ (List.mem_append_right _ (List.mem_append_left _ (List.mem_of_getElem? (l := tables_1_6) (i := 105) rfl)))))))), rfl⟩
theorem cw_179 : Cond.code ⟨"IllLightModel", "sizeOf", "(I)I"⟩ prog_11_method_28_code 1 (some .int) ∈ pm_tb := List.mem_filter.mpr ⟨(List.mem_append_right (k2_sels lw_privs) (List.mem_append_right _ (List.mem_append_right _ (List.mem_append_right _ (List.mem_append_right _ (List.mem_append_right _ (List.mem_append_left _ (List.mem_of_getElem? (l := tables_1_6) (i := 102) rfl)))))))), rfl⟩
theorem cw_180 : Cond.code ⟨"IllLightModel", "isOf", "(II)Z"⟩ prog_11_method_29_code 3 (some .boolean) ∈ pm_tb := List.mem_filter.mpr ⟨(List.mem_append_right (k2_sels lw_privs) (List.mem_append_right _ (List.mem_append_right _ (List.mem_append_right _ (List.mem_append_right _ (List.mem_append_right _ (List.mem_append_left _ (List.mem_of_getElem? (l := tables_1_6) (i := 13) rfl)))))))), rfl⟩
theorem cw_181 : Cond.code ⟨"IllLightModel", "text", "(II)I"⟩ prog_11_method_30_code 5 (some .int) ∈ pm_tb := List.mem_filter.mpr ⟨(List.mem_append_right (k2_sels lw_privs) (List.mem_append_right _ (List.mem_append_right _ (List.mem_append_right _ (List.mem_append_right _ (List.mem_append_right _ (List.mem_append_left _ (List.mem_of_getElem? (l := tables_1_6) (i := 6) rfl)))))))), rfl⟩
theorem cw_182 : Cond.code ⟨"IllLightModel", "settled", "(II)I"⟩ prog_11_method_31_code 3 (some .int) ∈ pm_tb := List.mem_filter.mpr ⟨(List.mem_append_right (k2_sels lw_privs) (List.mem_append_right _ (List.mem_append_right _ (List.mem_append_right _ (List.mem_append_right _ (List.mem_append_right _ (List.mem_append_left _ (List.mem_of_getElem? (l := tables_1_6) (i := 113) rfl)))))))), rfl⟩
theorem cw_183 : Cond.code ⟨"IllLightModel", "settles", "(I)V"⟩ prog_11_method_32_code 4 none ∈ pm_tb := List.mem_filter.mpr ⟨(List.mem_append_right (k2_sels lw_privs) (List.mem_append_right _ (List.mem_append_right _ (List.mem_append_right _ (List.mem_append_right _ (List.mem_append_right _ (List.mem_append_left _ (List.mem_of_getElem? (l := tables_1_6) (i := 109) rfl)))))))), rfl⟩
theorem cw_184 : Cond.code ⟨"IllLightModel", "fault", "(I)I"⟩ prog_11_method_33_code 2 (some .int) ∈ pm_tb := List.mem_filter.mpr ⟨(List.mem_append_right (k2_sels lw_privs) (List.mem_append_right _ (List.mem_append_right _ (List.mem_append_right _ (List.mem_append_right _ (List.mem_append_right _ (List.mem_append_left _ (List.mem_of_getElem? (l := tables_1_6) (i := 117) rfl)))))))), rfl⟩
theorem cw_185 : Cond.code ⟨"IllLightModel", "isCoast", "(I)Z"⟩ prog_11_method_34_code 2 (some .boolean) ∈ pm_tb := List.mem_filter.mpr ⟨(List.mem_append_right (k2_sels lw_privs) (List.mem_append_right _ (List.mem_append_right _ (List.mem_append_right _ (List.mem_append_right _ (List.mem_append_right _ (List.mem_append_left _ (List.mem_of_getElem? (l := tables_1_6) (i := 125) rfl)))))))), rfl⟩
theorem cw_186 : Cond.code ⟨"IllLightModel", "isCell", "(I)Z"⟩ prog_11_method_35_code 2 (some .boolean) ∈ pm_tb := List.mem_filter.mpr ⟨(List.mem_append_right (k2_sels lw_privs) (List.mem_append_right _ (List.mem_append_right _ (List.mem_append_right _ (List.mem_append_right _ (List.mem_append_right _ (List.mem_append_right _ (List.mem_of_getElem? (l := tables_1_7) (i := 11) rfl)))))))), rfl⟩
theorem cw_187 : Cond.code ⟨"IllLightModel", "isShip", "(I)Z"⟩ prog_11_method_36_code 2 (some .boolean) ∈ pm_tb := List.mem_filter.mpr ⟨(List.mem_append_right (k2_sels lw_privs) (List.mem_append_right _ (List.mem_append_right _ (List.mem_append_right _ (List.mem_append_right _ (List.mem_append_right _ (List.mem_append_left _ (List.mem_of_getElem? (l := tables_1_6) (i := 129) rfl)))))))), rfl⟩
theorem cw_188 : Cond.code ⟨"IllLightModel", "of", "(II)I"⟩ prog_11_method_37_code 3 (some .int) ∈ pm_tb := List.mem_filter.mpr ⟨(List.mem_append_right (k2_sels lw_privs) (List.mem_append_right _ (List.mem_append_right _ (List.mem_append_right _ (List.mem_append_right _ (List.mem_append_right _ (List.mem_append_left _ (List.mem_of_getElem? (l := tables_1_6) (i := 133) rfl)))))))), rfl⟩
theorem cw_189 : Cond.code ⟨"IllLightModel", "coast", "(II)I"⟩ prog_11_method_38_code 4 (some .int) ∈ pm_tb := List.mem_filter.mpr ⟨(List.mem_append_right (k2_sels lw_privs) (List.mem_append_right _ (List.mem_append_right _ (List.mem_append_right _ (List.mem_append_right _ (List.mem_append_right _ (List.mem_append_left _ (List.mem_of_getElem? (l := tables_1_6) (i := 121) rfl)))))))), rfl⟩
theorem cw_190 : Cond.code ⟨"IllLightModel", "man", "(IIII)I"⟩ prog_11_method_39_code 5 (some .int) ∈ pm_tb := List.mem_filter.mpr ⟨(List.mem_append_right (k2_sels lw_privs) (List.mem_append_right _ (List.mem_append_right _ (List.mem_append_right _ (List.mem_append_right _ (List.mem_append_right _ (List.mem_append_left _ (List.mem_of_getElem? (l := tables_1_6) (i := 137) rfl)))))))), rfl⟩
theorem cw_191 : Cond.code ⟨"IllLightModel", "asTold", "()V"⟩ prog_11_method_40_code 2 none ∈ pm_tb := List.mem_filter.mpr ⟨(List.mem_append_right (k2_sels lw_privs) (List.mem_append_right _ (List.mem_append_right _ (List.mem_append_right _ (List.mem_append_right _ (List.mem_append_right _ (List.mem_append_left _ (List.mem_of_getElem? (l := tables_1_6) (i := 145) rfl)))))))), rfl⟩
theorem cw_192 : Cond.code ⟨"IllLightModel", "meansAlone", "(II)I"⟩ prog_11_method_41_code 4 (some .int) ∈ pm_tb := List.mem_filter.mpr ⟨(List.mem_append_right (k2_sels lw_privs) (List.mem_append_right _ (List.mem_append_right _ (List.mem_append_right _ (List.mem_append_right _ (List.mem_append_right _ (List.mem_append_left _ (List.mem_of_getElem? (l := tables_1_6) (i := 153) rfl)))))))), rfl⟩
theorem cw_193 : Cond.code ⟨"IllLightModel", "means", "(III)I"⟩ prog_11_method_42_code 5 (some .int) ∈ pm_tb := List.mem_filter.mpr ⟨(List.mem_append_right (k2_sels lw_privs) (List.mem_append_right _ (List.mem_append_right _ (List.mem_append_right _ (List.mem_append_right _ (List.mem_append_right _ (List.mem_append_left _ (List.mem_of_getElem? (l := tables_1_6) (i := 149) rfl)))))))), rfl⟩
theorem cw_194 : Cond.code ⟨"IllLightModel", "harmOf", "(II)I"⟩ prog_11_method_43_code 5 (some .int) ∈ pm_tb := List.mem_filter.mpr ⟨(List.mem_append_right (k2_sels lw_privs) (List.mem_append_right _ (List.mem_append_right _ (List.mem_append_right _ (List.mem_append_right _ (List.mem_append_right _ (List.mem_append_left _ (List.mem_of_getElem? (l := tables_1_6) (i := 157) rfl)))))))), rfl⟩
theorem cw_195 : Cond.code ⟨"IllLightModel", "lightOf", "(II)I"⟩ prog_11_method_44_code 5 (some .int) ∈ pm_tb := List.mem_filter.mpr ⟨(List.mem_append_right (k2_sels lw_privs) (List.mem_append_right _ (List.mem_append_right _ (List.mem_append_right _ (List.mem_append_right _ (List.mem_append_right _ (List.mem_append_left _ (List.mem_of_getElem? (l := tables_1_6) (i := 161) rfl)))))))), rfl⟩
theorem cw_196 : Cond.code ⟨"IllLightModel", "isLit", "(II)Z"⟩ prog_11_method_45_code 4 (some .boolean) ∈ pm_tb := List.mem_filter.mpr ⟨(List.mem_append_right (k2_sels lw_privs) (List.mem_append_right _ (List.mem_append_right _ (List.mem_append_right _ (List.mem_append_right _ (List.mem_append_right _ (List.mem_append_left _ (List.mem_of_getElem? (l := tables_1_6) (i := 165) rfl)))))))), rfl⟩
theorem cw_197 : Cond.code ⟨"IllLightModel", "light", "(IIII)I"⟩ prog_11_method_46_code 5 (some .int) ∈ pm_tb := List.mem_filter.mpr ⟨(List.mem_append_right (k2_sels lw_privs) (List.mem_append_right _ (List.mem_append_right _ (List.mem_append_right _ (List.mem_append_right _ (List.mem_append_right _ (List.mem_append_left _ (List.mem_of_getElem? (l := tables_1_6) (i := 141) rfl)))))))), rfl⟩
theorem cw_198 : Cond.code ⟨"IllLightModel", "isNight", "(I)Z"⟩ prog_11_method_47_code 2 (some .boolean) ∈ pm_tb := List.mem_filter.mpr ⟨(List.mem_append_right (k2_sels lw_privs) (List.mem_append_right _ (List.mem_append_right _ (List.mem_append_right _ (List.mem_append_right _ (List.mem_append_right _ (List.mem_append_left _ (List.mem_of_getElem? (l := tables_1_6) (i := 173) rfl)))))))), rfl⟩
theorem cw_199 : Cond.code ⟨"IllLightModel", "deed", "(III)I"⟩ prog_11_method_48_code 4 (some .int) ∈ pm_tb := List.mem_filter.mpr ⟨(List.mem_append_right (k2_sels lw_privs) (List.mem_append_right _ (List.mem_append_right _ (List.mem_append_right _ (List.mem_append_right _ (List.mem_append_right _ (List.mem_append_left _ (List.mem_of_getElem? (l := tables_1_6) (i := 169) rfl)))))))), rfl⟩
theorem cw_200 : Cond.code ⟨"IllLightModel", "begins", "()V"⟩ prog_11_method_49_code 2 none ∈ pm_tb := List.mem_filter.mpr ⟨(List.mem_append_right (k2_sels lw_privs) (List.mem_append_right _ (List.mem_append_right _ (List.mem_append_right _ (List.mem_append_right _ (List.mem_append_right _ (List.mem_append_left _ (List.mem_of_getElem? (l := tables_1_6) (i := 185) rfl)))))))), rfl⟩
theorem cw_201 : Cond.code ⟨"IllLightModel", "isLost", "(I)Z"⟩ prog_11_method_50_code 2 (some .boolean) ∈ pm_tb := List.mem_filter.mpr ⟨(List.mem_append_right (k2_sels lw_privs) (List.mem_append_right _ (List.mem_append_right _ (List.mem_append_right _ (List.mem_append_right _ (List.mem_append_right _ (List.mem_append_left _ (List.mem_of_getElem? (l := tables_1_6) (i := 197) rfl)))))))), rfl⟩
theorem cw_202 : Cond.code ⟨"IllLightModel", "stepTo", "(II)I"⟩ prog_11_method_51_code 5 (some .int) ∈ pm_tb := List.mem_filter.mpr ⟨(List.mem_append_right (k2_sels lw_privs) (List.mem_append_right _ (List.mem_append_right _ (List.mem_append_right _ (List.mem_append_right _ (List.mem_append_right _ (List.mem_append_left _ (List.mem_of_getElem? (l := tables_1_6) (i := 235) rfl)))))))), rfl⟩
theorem cw_203 : Cond.code ⟨"IllLightModel", "far", "(II)I"⟩ prog_11_method_52_code 2 (some .int) ∈ pm_tb := List.mem_filter.mpr ⟨(List.mem_append_right (k2_sels lw_privs) (List.mem_append_right _ (List.mem_append_right _ (List.mem_append_right _ (List.mem_append_right _ (List.mem_append_right _ (List.mem_append_left _ (List.mem_of_getElem? (l := tables_1_6) (i := 219) rfl)))))))), rfl⟩
theorem cw_204 : Cond.code ⟨"IllLightModel", "apart", "(II)I"⟩ prog_11_method_53_code 3 (some .int) ∈ pm_tb := List.mem_filter.mpr ⟨(List.mem_append_right (k2_sels lw_privs) (List.mem_append_right _ (List.mem_append_right _ (List.mem_append_right _ (List.mem_append_right _ (List.mem_append_right _ (List.mem_append_left _ (List.mem_of_getElem? (l := tables_1_6) (i := 216) rfl)))))))), rfl⟩
theorem cw_205 : Cond.code ⟨"IllLightModel", "side", "(I)I"⟩ prog_11_method_54_code 1 (some .int) ∈ pm_tb := List.mem_filter.mpr ⟨(List.mem_append_right (k2_sels lw_privs) (List.mem_append_right _ (List.mem_append_right _ (List.mem_append_right _ (List.mem_append_right _ (List.mem_append_right _ (List.mem_append_left _ (List.mem_of_getElem? (l := tables_1_6) (i := 212) rfl)))))))), rfl⟩
theorem cw_206 : Cond.code ⟨"IllLightModel", "isBetween", "(II)Z"⟩ prog_11_method_55_code 8 (some .boolean) ∈ pm_tb := List.mem_filter.mpr ⟨(List.mem_append_right (k2_sels lw_privs) (List.mem_append_right _ (List.mem_append_right _ (List.mem_append_right _ (List.mem_append_right _ (List.mem_append_right _ (List.mem_append_left _ (List.mem_of_getElem? (l := tables_1_6) (i := 209) rfl)))))))), rfl⟩
theorem cw_207 : Cond.code ⟨"IllLightModel", "shadeOf", "(I)I"⟩ prog_11_method_56_code 4 (some .int) ∈ pm_tb := List.mem_filter.mpr ⟨(List.mem_append_right (k2_sels lw_privs) (List.mem_append_right _ (List.mem_append_right _ (List.mem_append_right _ (List.mem_append_right _ (List.mem_append_right _ (List.mem_append_left _ (List.mem_of_getElem? (l := tables_1_6) (i := 205) rfl)))))))), rfl⟩
theorem cw_208 : Cond.code ⟨"IllLightModel", "isNearer", "(II)Z"⟩ prog_11_method_57_code 3 (some .boolean) ∈ pm_tb := List.mem_filter.mpr ⟨(List.mem_append_right (k2_sels lw_privs) (List.mem_append_right _ (List.mem_append_right _ (List.mem_append_right _ (List.mem_append_right _ (List.mem_append_right _ (List.mem_append_left _ (List.mem_of_getElem? (l := tables_1_6) (i := 223) rfl)))))))), rfl⟩
theorem cw_209 : Cond.code ⟨"IllLightModel", "isBeamed", "(I)Z"⟩ prog_11_method_58_code 3 (some .boolean) ∈ pm_tb := List.mem_filter.mpr ⟨(List.mem_append_right (k2_sels lw_privs) (List.mem_append_right _ (List.mem_append_right _ (List.mem_append_right _ (List.mem_append_right _ (List.mem_append_right _ (List.mem_append_left _ (List.mem_of_getElem? (l := tables_1_6) (i := 201) rfl)))))))), rfl⟩
theorem cw_210 : Cond.code ⟨"IllLightModel", "isGuarded", "(I)Z"⟩ prog_11_method_59_code 4 (some .boolean) ∈ pm_tb := List.mem_filter.mpr ⟨(List.mem_append_right (k2_sels lw_privs) (List.mem_append_right _ (List.mem_append_right _ (List.mem_append_right _ (List.mem_append_right _ (List.mem_append_right _ (List.mem_append_left _ (List.mem_of_getElem? (l := tables_1_6) (i := 231) rfl)))))))), rfl⟩
theorem cw_211 : Cond.code ⟨"IllLightModel", "isRock", "(I)Z"⟩ prog_11_method_60_code 2 (some .boolean) ∈ pm_tb := List.mem_filter.mpr ⟨(List.mem_append_right (k2_sels lw_privs) (List.mem_append_right _ (List.mem_append_right _ (List.mem_append_right _ (List.mem_append_right _ (List.mem_append_right _ (List.mem_append_left _ (List.mem_of_getElem? (l := tables_1_6) (i := 227) rfl)))))))), rfl⟩
theorem cw_212 : Cond.code ⟨"IllLightModel", "passesHour", "()V"⟩ prog_11_method_61_code 5 none ∈ pm_tb := List.mem_filter.mpr ⟨(List.mem_append_right (k2_sels lw_privs) (List.mem_append_right _ (List.mem_append_right _ (List.mem_append_right _ (List.mem_append_right _ (List.mem_append_right _ (List.mem_append_left _ (List.mem_of_getElem? (l := tables_1_6) (i := 193) rfl)))))))), rfl⟩
theorem cw_213 : Cond.code ⟨"IllLightModel", "does", "(IIII)Z"⟩ prog_11_method_62_code 6 (some .boolean) ∈ pm_tb := List.mem_filter.mpr ⟨(List.mem_append_right (k2_sels lw_privs) (List.mem_append_right _ (List.mem_append_right _ (List.mem_append_right _ (List.mem_append_right _ (List.mem_append_right _ (List.mem_append_left _ (List.mem_of_getElem? (l := tables_1_6) (i := 189) rfl)))))))), rfl⟩
theorem cw_214 : Cond.code ⟨"IllLightModel", "runs", "(I)V"⟩ prog_11_method_63_code 2 none ∈ pm_tb := List.mem_filter.mpr ⟨(List.mem_append_right (k2_sels lw_privs) (List.mem_append_right _ (List.mem_append_right _ (List.mem_append_right _ (List.mem_append_right _ (List.mem_append_right _ (List.mem_append_left _ (List.mem_of_getElem? (l := tables_1_6) (i := 181) rfl)))))))), rfl⟩
theorem cw_215 : Cond.code ⟨"IllLightModel", "stop", "(II)I"⟩ prog_11_method_64_code 3 (some .int) ∈ pm_tb := List.mem_filter.mpr ⟨(List.mem_append_right (k2_sels lw_privs) (List.mem_append_right _ (List.mem_append_right _ (List.mem_append_right _ (List.mem_append_right _ (List.mem_append_right _ (List.mem_append_left _ (List.mem_of_getElem? (l := tables_1_6) (i := 177) rfl)))))))), rfl⟩
theorem cw_216 : Cond.code ⟨"IllLightModel", "nowOf", "(I)I"⟩ prog_11_method_65_code 4 (some .int) ∈ pm_tb := List.mem_filter.mpr ⟨(List.mem_append_right (k2_sels lw_privs) (List.mem_append_right _ (List.mem_append_right _ (List.mem_append_right _ (List.mem_append_right _ (List.mem_append_right _ (List.mem_append_right _ (List.mem_of_getElem? (l := tables_1_7) (i := 3) rfl)))))))), rfl⟩
theorem cw_217 : Cond.code ⟨"IllLightModel", "state", "(IIII)I"⟩ prog_11_method_66_code 5 (some .int) ∈ pm_tb := List.mem_filter.mpr ⟨(List.mem_append_right (k2_sels lw_privs) (List.mem_append_right _ (List.mem_append_right _ (List.mem_append_right _ (List.mem_append_right _ (List.mem_append_right _ (List.mem_append_left _ (List.mem_of_getElem? (l := tables_1_6) (i := 239) rfl)))))))), rfl⟩
theorem cw_218 : Cond.code ⟨"IllLightModel", "isSafe", "(IIII)Z"⟩ prog_11_method_67_code 6 (some .boolean) ∈ pm_tb := List.mem_filter.mpr ⟨(List.mem_append_right (k2_sels lw_privs) (List.mem_append_right _ (List.mem_append_right _ (List.mem_append_right _ (List.mem_append_right _ (List.mem_append_right _ (List.mem_append_right _ (List.mem_of_getElem? (l := tables_1_7) (i := 19) rfl)))))))), rfl⟩
theorem cw_219 : Cond.code ⟨"IllLightModel", "goes", "(IIII)V"⟩ prog_11_method_68_code 8 none ∈ pm_tb := List.mem_filter.mpr ⟨(List.mem_append_right (k2_sels lw_privs) (List.mem_append_right _ (List.mem_append_right _ (List.mem_append_right _ (List.mem_append_right _ (List.mem_append_right _ (List.mem_append_right _ (List.mem_of_getElem? (l := tables_1_7) (i := 15) rfl)))))))), rfl⟩
theorem cw_220 : Cond.code ⟨"IllLightModel", "way", "(III)I"⟩ prog_11_method_69_code 4 (some .int) ∈ pm_tb := List.mem_filter.mpr ⟨(List.mem_append_right (k2_sels lw_privs) (List.mem_append_right _ (List.mem_append_right _ (List.mem_append_right _ (List.mem_append_right _ (List.mem_append_right _ (List.mem_append_right _ (List.mem_of_getElem? (l := tables_1_7) (i := 7) rfl)))))))), rfl⟩
theorem cw_221 : Cond.code ⟨"IllLightModel", "free", "(IIII)I"⟩ prog_11_method_70_code 7 (some .int) ∈ pm_tb := List.mem_filter.mpr ⟨(List.mem_append_right (k2_sels lw_privs) (List.mem_append_right _ (List.mem_append_right _ (List.mem_append_right _ (List.mem_append_right _ (List.mem_append_right _ (List.mem_append_right _ (List.mem_of_getElem? (l := tables_1_7) (i := 23) rfl)))))))), rfl⟩
theorem cw_222 : Cond.code ⟨"IllLightModel", "comes", "(IIII)Z"⟩ prog_11_method_71_code 5 (some .boolean) ∈ pm_tb := List.mem_filter.mpr ⟨(List.mem_append_right (k2_sels lw_privs) (List.mem_append_right _ (List.mem_append_right _ (List.mem_append_right _ (List.mem_append_right _ (List.mem_append_right _ (List.mem_append_right _ (List.mem_of_getElem? (l := tables_1_7) (i := 38) rfl)))))))), rfl⟩
theorem cw_223 : Cond.code ⟨"IllLightModel", "bitsOf", "(I)I"⟩ prog_11_method_72_code 3 (some .int) ∈ pm_tb := List.mem_filter.mpr ⟨(List.mem_append_right (k2_sels lw_privs) (List.mem_append_right _ (List.mem_append_right _ (List.mem_append_right _ (List.mem_append_right _ (List.mem_append_right _ (List.mem_append_right _ (List.mem_of_getElem? (l := tables_1_7) (i := 34) rfl)))))))), rfl⟩
theorem cw_224 : Cond.code ⟨"IllLightModel", "takenOf", "(III)I"⟩ prog_11_method_73_code 6 (some .int) ∈ pm_tb := List.mem_filter.mpr ⟨(List.mem_append_right (k2_sels lw_privs) (List.mem_append_right _ (List.mem_append_right _ (List.mem_append_right _ (List.mem_append_right _ (List.mem_append_right _ (List.mem_append_right _ (List.mem_of_getElem? (l := tables_1_7) (i := 31) rfl)))))))), rfl⟩
theorem cw_225 : Cond.code ⟨"IllLightModel", "lulledOf", "(III)I"⟩ prog_11_method_74_code 7 (some .int) ∈ pm_tb := List.mem_filter.mpr ⟨(List.mem_append_right (k2_sels lw_privs) (List.mem_append_right _ (List.mem_append_right _ (List.mem_append_right _ (List.mem_append_right _ (List.mem_append_right _ (List.mem_append_right _ (List.mem_of_getElem? (l := tables_1_7) (i := 54) rfl)))))))), rfl⟩
theorem cw_226 : Cond.code ⟨"IllLightModel", "illOf", "(III)I"⟩ prog_11_method_75_code 5 (some .int) ∈ pm_tb := List.mem_filter.mpr ⟨(List.mem_append_right (k2_sels lw_privs) (List.mem_append_right _ (List.mem_append_right _ (List.mem_append_right _ (List.mem_append_right _ (List.mem_append_right _ (List.mem_append_right _ (List.mem_of_getElem? (l := tables_1_7) (i := 42) rfl)))))))), rfl⟩
theorem cw_227 : Cond.code ⟨"IllLightModel", "thrownOf", "(III)I"⟩ prog_11_method_76_code 6 (some .int) ∈ pm_tb := List.mem_filter.mpr ⟨(List.mem_append_right (k2_sels lw_privs) (List.mem_append_right _ (List.mem_append_right _ (List.mem_append_right _ (List.mem_append_right _ (List.mem_append_right _ (List.mem_append_right _ (List.mem_of_getElem? (l := tables_1_7) (i := 46) rfl)))))))), rfl⟩
theorem cw_228 : Cond.code ⟨"IllLightModel", "leaveOf", "(III)I"⟩ prog_11_method_77_code 5 (some .int) ∈ pm_tb := List.mem_filter.mpr ⟨(List.mem_append_right (k2_sels lw_privs) (List.mem_append_right _ (List.mem_append_right _ (List.mem_append_right _ (List.mem_append_right _ (List.mem_append_right _ (List.mem_append_right _ (List.mem_of_getElem? (l := tables_1_7) (i := 50) rfl)))))))), rfl⟩
theorem cw_229 : Cond.code ⟨"IllLightModel", "helps", "(IIIII)I"⟩ prog_11_method_78_code 6 (some .int) ∈ pm_tb := List.mem_filter.mpr ⟨(List.mem_append_right (k2_sels lw_privs) (List.mem_append_right _ (List.mem_append_right _ (List.mem_append_right _ (List.mem_append_right _ (List.mem_append_right _ (List.mem_append_right _ (List.mem_of_getElem? (l := tables_1_7) (i := 27) rfl)))))))), rfl⟩
theorem cw_230 : Cond.code ⟨"IllLightModel", "openOf", "(I)I"⟩ prog_11_method_79_code 4 (some .int) ∈ pm_tb := List.mem_filter.mpr ⟨(List.mem_append_right (k2_sels lw_privs) (List.mem_append_right _ (List.mem_append_right _ (List.mem_append_right _ (List.mem_append_right _ (List.mem_append_right _ (List.mem_append_right _ (List.mem_of_getElem? (l := tables_1_7) (i := 66) rfl)))))))), rfl⟩
theorem cw_231 : Cond.code ⟨"IllLightModel", "wins", "(III)Z"⟩ prog_11_method_80_code 4 (some .boolean) ∈ pm_tb := List.mem_filter.mpr ⟨(List.mem_append_right (k2_sels lw_privs) (List.mem_append_right _ (List.mem_append_right _ (List.mem_append_right _ (List.mem_append_right _ (List.mem_append_right _ (List.mem_append_right _ (List.mem_of_getElem? (l := tables_1_7) (i := 70) rfl)))))))), rfl⟩
theorem cw_232 : Cond.code ⟨"IllLightModel", "isRest", "(III)Z"⟩ prog_11_method_81_code 8 (some .boolean) ∈ pm_tb := List.mem_filter.mpr ⟨(List.mem_append_right (k2_sels lw_privs) (List.mem_append_right _ (List.mem_append_right _ (List.mem_append_right _ (List.mem_append_right _ (List.mem_append_right _ (List.mem_append_right _ (List.mem_of_getElem? (l := tables_1_7) (i := 74) rfl)))))))), rfl⟩
theorem cw_233 : Cond.code ⟨"IllLightModel", "safestOf", "(I)I"⟩ prog_11_method_82_code 7 (some .int) ∈ pm_tb := List.mem_filter.mpr ⟨(List.mem_append_right (k2_sels lw_privs) (List.mem_append_right _ (List.mem_append_right _ (List.mem_append_right _ (List.mem_append_right _ (List.mem_append_right _ (List.mem_append_right _ (List.mem_of_getElem? (l := tables_1_7) (i := 62) rfl)))))))), rfl⟩
theorem cw_234 : Cond.code ⟨"IllLightModel", "rest", "(III)I"⟩ prog_11_method_83_code 6 (some .int) ∈ pm_tb := List.mem_filter.mpr ⟨(List.mem_append_right (k2_sels lw_privs) (List.mem_append_right _ (List.mem_append_right _ (List.mem_append_right _ (List.mem_append_right _ (List.mem_append_right _ (List.mem_append_right _ (List.mem_of_getElem? (l := tables_1_7) (i := 58) rfl)))))))), rfl⟩
theorem cw_235 : Cond.code ⟨"IllLightModel", "common", "(JJ)J"⟩ prog_11_method_84_code 10 (some .long) ∈ pm_tb := List.mem_filter.mpr ⟨(List.mem_append_right (k2_sels lw_privs) (List.mem_append_right _ (List.mem_append_right _ (List.mem_append_right _ (List.mem_append_right _ (List.mem_append_right _ (List.mem_append_right _ (List.mem_of_getElem? (l := tables_1_7) (i := 86) rfl)))))))), rfl⟩
theorem cw_236 : Cond.code ⟨"IllLightModel", "power", "(JI)J"⟩ prog_11_method_85_code 6 (some .long) ∈ pm_tb := List.mem_filter.mpr ⟨(List.mem_append_right (k2_sels lw_privs) (List.mem_append_right _ (List.mem_append_right _ (List.mem_append_right _ (List.mem_append_right _ (List.mem_append_right _ (List.mem_append_right _ (List.mem_of_getElem? (l := tables_1_7) (i := 83) rfl)))))))), rfl⟩
theorem cw_237 : Cond.code ⟨"IllLightModel", "premium", "(IIIZ)J"⟩ prog_11_method_86_code 9 (some .long) ∈ pm_tb := List.mem_filter.mpr ⟨(List.mem_append_right (k2_sels lw_privs) (List.mem_append_right _ (List.mem_append_right _ (List.mem_append_right _ (List.mem_append_right _ (List.mem_append_right _ (List.mem_append_right _ (List.mem_of_getElem? (l := tables_1_7) (i := 78) rfl)))))))), rfl⟩
theorem cw_238 : Cond.code ⟨"IllLightModel", "isLog", "(I)Z"⟩ prog_11_method_87_code 2 (some .boolean) ∈ pm_tb := List.mem_filter.mpr ⟨(List.mem_append_right (k2_sels lw_privs) (List.mem_append_right _ (List.mem_append_right _ (List.mem_append_right _ (List.mem_append_right _ (List.mem_append_right _ (List.mem_append_right _ (List.mem_of_getElem? (l := tables_1_7) (i := 94) rfl)))))))), rfl⟩
theorem cw_239 : Cond.code ⟨"IllLightModel", "log", "(II)I"⟩ prog_11_method_88_code 4 (some .int) ∈ pm_tb := List.mem_filter.mpr ⟨(List.mem_append_right (k2_sels lw_privs) (List.mem_append_right _ (List.mem_append_right _ (List.mem_append_right _ (List.mem_append_right _ (List.mem_append_right _ (List.mem_append_right _ (List.mem_of_getElem? (l := tables_1_7) (i := 90) rfl)))))))), rfl⟩
theorem cw_240 : Cond.code ⟨"IllLightModel", "isLitBy", "(II)Z"⟩ prog_11_method_89_code 3 (some .boolean) ∈ pm_tb := List.mem_filter.mpr ⟨(List.mem_append_right (k2_sels lw_privs) (List.mem_append_right _ (List.mem_append_right _ (List.mem_append_right _ (List.mem_append_right _ (List.mem_append_right _ (List.mem_append_right _ (List.mem_of_getElem? (l := tables_1_7) (i := 110) rfl)))))))), rfl⟩
theorem cw_241 : Cond.code ⟨"IllLightModel", "wrongBy", "(I)I"⟩ prog_11_method_90_code 4 (some .int) ∈ pm_tb := List.mem_filter.mpr ⟨(List.mem_append_right (k2_sels lw_privs) (List.mem_append_right _ (List.mem_append_right _ (List.mem_append_right _ (List.mem_append_right _ (List.mem_append_right _ (List.mem_append_right _ (List.mem_of_getElem? (l := tables_1_7) (i := 106) rfl)))))))), rfl⟩
theorem cw_242 : Cond.code ⟨"IllLightModel", "countOf", "(I)I"⟩ prog_11_method_91_code 4 (some .int) ∈ pm_tb := List.mem_filter.mpr ⟨(List.mem_append_right (k2_sels lw_privs) (List.mem_append_right _ (List.mem_append_right _ (List.mem_append_right _ (List.mem_append_right _ (List.mem_append_right _ (List.mem_append_right _ (List.mem_of_getElem? (l := tables_1_7) (i := 102) rfl)))))))), rfl⟩
theorem cw_243 : Cond.code ⟨"IllLightModel", "askOf", "()I"⟩ prog_11_method_92_code 6 (some .int) ∈ pm_tb := List.mem_filter.mpr ⟨(List.mem_append_right (k2_sels lw_privs) (List.mem_append_right _ (List.mem_append_right _ (List.mem_append_right _ (List.mem_append_right _ (List.mem_append_right _ (List.mem_append_right _ (List.mem_of_getElem? (l := tables_1_7) (i := 114) rfl)))))))), rfl⟩
theorem cw_244 : Cond.code ⟨"IllLightModel", "fits", "(II)I"⟩ prog_11_method_93_code 5 (some .int) ∈ pm_tb := List.mem_filter.mpr ⟨(List.mem_append_right (k2_sels lw_privs) (List.mem_append_right _ (List.mem_append_right _ (List.mem_append_right _ (List.mem_append_right _ (List.mem_append_right _ (List.mem_append_right _ (List.mem_of_getElem? (l := tables_1_7) (i := 98) rfl)))))))), rfl⟩
theorem cw_245 : Cond.code ⟨"IllLightModel", "weightOf", "(I)J"⟩ prog_11_method_94_code 5 (some .long) ∈ pm_tb := List.mem_filter.mpr ⟨(List.mem_append_right (k2_sels lw_privs) (List.mem_append_right _ (List.mem_append_right _ (List.mem_append_right _ (List.mem_append_right _ (List.mem_append_right _ (List.mem_append_right _ (List.mem_of_getElem? (l := tables_1_7) (i := 122) rfl)))))))), rfl⟩
theorem cw_246 : Cond.code ⟨"IllLightModel", "belief", "(IIZ)J"⟩ prog_11_method_95_code 11 (some .long) ∈ pm_tb := List.mem_filter.mpr ⟨(List.mem_append_right (k2_sels lw_privs) (List.mem_append_right _ (List.mem_append_right _ (List.mem_append_right _ (List.mem_append_right _ (List.mem_append_right _ (List.mem_append_right _ (List.mem_of_getElem? (l := tables_1_7) (i := 118) rfl)))))))), rfl⟩
theorem cw_247 : Cond.code ⟨"IllLightModel", "darkest", "(I)I"⟩ prog_11_method_96_code 5 (some .int) ∈ pm_tb := List.mem_filter.mpr ⟨(List.mem_append_right (k2_sels lw_privs) (List.mem_append_right _ (List.mem_append_right _ (List.mem_append_right _ (List.mem_append_right _ (List.mem_append_right _ (List.mem_append_right _ (List.mem_of_getElem? (l := tables_1_7) (i := 130) rfl)))))))), rfl⟩
theorem cw_248 : Cond.code ⟨"IllLightModel", "hours", "(III)I"⟩ prog_11_method_97_code 9 (some .int) ∈ pm_tb := List.mem_filter.mpr ⟨(List.mem_append_right (k2_sels lw_privs) (List.mem_append_right _ (List.mem_append_right _ (List.mem_append_right _ (List.mem_append_right _ (List.mem_append_right _ (List.mem_append_right _ (List.mem_of_getElem? (l := tables_1_7) (i := 126) rfl)))))))), rfl⟩
theorem cw_249 : Cond.code ⟨"IllLightModel", "shade", "(II)I"⟩ prog_11_method_98_code 6 (some .int) ∈ pm_tb := List.mem_filter.mpr ⟨(List.mem_append_right (k2_sels lw_privs) (List.mem_append_right _ (List.mem_append_right _ (List.mem_append_right _ (List.mem_append_right _ (List.mem_append_right _ (List.mem_append_right _ (List.mem_of_getElem? (l := tables_1_7) (i := 134) rfl)))))))), rfl⟩
theorem cw_250 : Cond.code ⟨"IllLightModel", "leaves", "(IIII)I"⟩ prog_11_method_99_code 7 (some .int) ∈ pm_tb := List.mem_filter.mpr ⟨(List.mem_append_right (k2_sels lw_privs) (List.mem_append_right _ (List.mem_append_right _ (List.mem_append_right _ (List.mem_append_right _ (List.mem_append_right _ (List.mem_append_right _ (List.mem_of_getElem? (l := tables_1_7) (i := 138) rfl)))))))), rfl⟩
theorem cw_251 : Cond.code ⟨"IllLightModel", "passes", "(III)V"⟩ prog_11_method_100_code 7 none ∈ pm_tb := List.mem_filter.mpr ⟨(List.mem_append_right (k2_sels lw_privs) (List.mem_append_right _ (List.mem_append_right _ (List.mem_append_right _ (List.mem_append_right _ (List.mem_append_right _ (List.mem_append_right _ (List.mem_of_getElem? (l := tables_1_7) (i := 146) rfl)))))))), rfl⟩
theorem cw_252 : Cond.code ⟨"IllLightModel", "back", "(III)I"⟩ prog_11_method_101_code 6 (some .int) ∈ pm_tb := List.mem_filter.mpr ⟨(List.mem_append_right (k2_sels lw_privs) (List.mem_append_right _ (List.mem_append_right _ (List.mem_append_right _ (List.mem_append_right _ (List.mem_append_right _ (List.mem_append_right _ (List.mem_of_getElem? (l := tables_1_7) (i := 142) rfl)))))))), rfl⟩
theorem cw_253 : Cond.code ⟨"IllLightModel", "seenBy", "(III)I"⟩ prog_11_method_102_code 6 (some .int) ∈ pm_tb := List.mem_filter.mpr ⟨(List.mem_append_right (k2_sels lw_privs) (List.mem_append_right _ (List.mem_append_right _ (List.mem_append_right _ (List.mem_append_right _ (List.mem_append_right _ (List.mem_append_right _ (List.mem_of_getElem? (l := tables_1_7) (i := 158) rfl)))))))), rfl⟩
theorem cw_254 : Cond.code ⟨"IllLightModel", "crossed", "(I)I"⟩ prog_11_method_103_code 7 (some .int) ∈ pm_tb := List.mem_filter.mpr ⟨(List.mem_append_right (k2_sels lw_privs) (List.mem_append_right _ (List.mem_append_right _ (List.mem_append_right _ (List.mem_append_right _ (List.mem_append_right _ (List.mem_append_right _ (List.mem_of_getElem? (l := tables_1_7) (i := 154) rfl)))))))), rfl⟩
theorem cw_255 : Cond.code ⟨"IllLightModel", "watch", "(III)I"⟩ prog_11_method_104_code 10 (some .int) ∈ pm_tb := List.mem_filter.mpr ⟨(List.mem_append_right (k2_sels lw_privs) (List.mem_append_right _ (List.mem_append_right _ (List.mem_append_right _ (List.mem_append_right _ (List.mem_append_right _ (List.mem_append_right _ (List.mem_of_getElem? (l := tables_1_7) (i := 150) rfl)))))))), rfl⟩
theorem cw_256 : Cond.code ⟨"IllLightModel", "mutiny", "(IIIZ)I"⟩ prog_11_method_105_code 8 (some .int) ∈ pm_tb := List.mem_filter.mpr ⟨(List.mem_append_right (k2_sels lw_privs) (List.mem_append_right _ (List.mem_append_right _ (List.mem_append_right _ (List.mem_append_right _ (List.mem_append_right _ (List.mem_append_right _ (List.mem_of_getElem? (l := tables_1_7) (i := 162) rfl)))))))), rfl⟩
theorem cw_257 : Cond.code ⟨"IllLightModel", "fraction", "(Z)J"⟩ prog_11_method_106_code 2 (some .long) ∈ pm_tb := List.mem_filter.mpr ⟨(List.mem_append_right (k2_sels lw_privs) (List.mem_append_right _ (List.mem_append_right _ (List.mem_append_right _ (List.mem_append_right _ (List.mem_append_right _ (List.mem_append_right _ (List.mem_of_getElem? (l := tables_1_7) (i := 174) rfl)))))))), rfl⟩
theorem cw_258 : Cond.code ⟨"IllLightModel", "weighs", "(ZJ)V"⟩ prog_11_method_107_code 4 none ∈ pm_tb := List.mem_filter.mpr ⟨(List.mem_append_right (k2_sels lw_privs) (List.mem_append_right _ (List.mem_append_right _ (List.mem_append_right _ (List.mem_append_right _ (List.mem_append_right _ (List.mem_append_right _ (List.mem_of_getElem? (l := tables_1_7) (i := 170) rfl)))))))), rfl⟩
theorem cw_259 : Cond.code ⟨"IllLightModel", "next", "(IIZ)J"⟩ prog_11_method_108_code 5 (some .long) ∈ pm_tb := List.mem_filter.mpr ⟨(List.mem_append_right (k2_sels lw_privs) (List.mem_append_right _ (List.mem_append_right _ (List.mem_append_right _ (List.mem_append_right _ (List.mem_append_right _ (List.mem_append_right _ (List.mem_of_getElem? (l := tables_1_7) (i := 166) rfl)))))))), rfl⟩
theorem cw_260 : Cond.code ⟨"IllLightModel", "both", "(IIIZ)J"⟩ prog_11_method_109_code 6 (some .long) ∈ pm_tb := List.mem_filter.mpr ⟨(List.mem_append_right (k2_sels lw_privs) (List.mem_append_right _ (List.mem_append_right _ (List.mem_append_right _ (List.mem_append_right _ (List.mem_append_right _ (List.mem_append_right _ (List.mem_of_getElem? (l := tables_1_7) (i := 178) rfl)))))))), rfl⟩
theorem cw_261 : Cond.code ⟨"IllLightModel", "below", "(I)I"⟩ prog_11_method_110_code 2 (some .int) ∈ pm_tb := List.mem_filter.mpr ⟨(List.mem_append_right (k2_sels lw_privs) (List.mem_append_right _ (List.mem_append_right _ (List.mem_append_right _ (List.mem_append_right _ (List.mem_append_right _ (List.mem_append_right _ (List.mem_of_getElem? (l := tables_1_7) (i := 190) rfl)))))))), rfl⟩
theorem cw_262 : Cond.code ⟨"IllLightModel", "draws", "()V"⟩ prog_11_method_111_code 4 none ∈ pm_tb := List.mem_filter.mpr ⟨(List.mem_append_right (k2_sels lw_privs) (List.mem_append_right _ (List.mem_append_right _ (List.mem_append_right _ (List.mem_append_right _ (List.mem_append_right _ (List.mem_append_right _ (List.mem_of_getElem? (l := tables_1_7) (i := 186) rfl)))))))), rfl⟩
theorem cw_263 : Cond.code ⟨"IllLightModel", "drawn", "(IIII)I"⟩ prog_11_method_112_code 6 (some .int) ∈ pm_tb := List.mem_filter.mpr ⟨(List.mem_append_right (k2_sels lw_privs) (List.mem_append_right _ (List.mem_append_right _ (List.mem_append_right _ (List.mem_append_right _ (List.mem_append_right _ (List.mem_append_right _ (List.mem_of_getElem? (l := tables_1_7) (i := 182) rfl)))))))), rfl⟩
theorem cw_264 : Cond.code ⟨"IllLightModel", "count", "(I)I"⟩ prog_11_method_113_code 2 (some .int) ∈ pm_tb := List.mem_filter.mpr ⟨(List.mem_append_right (k2_sels lw_privs) (List.mem_append_right _ (List.mem_append_right _ (List.mem_append_right _ (List.mem_append_right _ (List.mem_append_right _ (List.mem_append_right _ (List.mem_of_getElem? (l := tables_1_7) (i := 195) rfl)))))))), rfl⟩
theorem cw_265 : Cond.code ⟨"IllLightModel", "image", "(I)Z"⟩ prog_11_method_114_code 3 (some .boolean) ∈ pm_tb := List.mem_filter.mpr ⟨(List.mem_append_right (k2_sels lw_privs) (List.mem_append_right _ (List.mem_append_right _ (List.mem_append_right _ (List.mem_append_right _ (List.mem_append_right _ (List.mem_append_right _ (List.mem_of_getElem? (l := tables_1_7) (i := 199) rfl)))))))), rfl⟩
theorem cw_266 : Cond.code ⟨"IllLightModel", "again", "(I)Z"⟩ prog_11_method_115_code 3 (some .boolean) ∈ pm_tb := List.mem_filter.mpr ⟨(List.mem_append_right (k2_sels lw_privs) (List.mem_append_right _ (List.mem_append_right _ (List.mem_append_right _ (List.mem_append_right _ (List.mem_append_right _ (List.mem_append_right _ (List.mem_of_getElem? (l := tables_1_7) (i := 203) rfl)))))))), rfl⟩
theorem cw_267 : Cond.code ⟨"java/lang/Integer", "bitCount", "(I)I"⟩ prog_12_method_49_code 1 (some .int) ∈ pm_tb := List.mem_filter.mpr ⟨(List.mem_append_right (k2_sels lw_privs) (List.mem_append_right _ (List.mem_append_right _ (List.mem_append_right _ (List.mem_append_left _ (List.mem_of_getElem? (l := tables_1_4) (i := 88) rfl)))))), rfl⟩
theorem cw_268 : Cond.code ⟨"java/lang/Long", "bitCount", "(J)I"⟩ prog_13_method_50_code 2 (some .int) ∈ pm_tb := List.mem_filter.mpr ⟨(List.mem_append_right (k2_sels lw_privs) (List.mem_append_right _ (List.mem_append_right _ (List.mem_append_right _ (List.mem_append_left _ (List.mem_of_getElem? (l := tables_1_4) (i := 73) rfl)))))), rfl⟩
theorem cw_269 : Cond.code ⟨"java/lang/String", "length", "()I"⟩ prog_15_method_54_code 1 (some .int) ∈ pm_tb := List.mem_filter.mpr ⟨(List.mem_append_right (k2_sels lw_privs) (List.mem_append_right _ (List.mem_append_left _ (List.mem_of_getElem? (l := tables_1_2) (i := 186) rfl)))), rfl⟩
theorem cw_270 : Cond.code ⟨"java/lang/String", "charAt", "(I)C"⟩ prog_15_method_56_code 2 (some .char) ∈ pm_tb := List.mem_filter.mpr ⟨(List.mem_append_right (k2_sels lw_privs) (List.mem_append_right _ (List.mem_append_left _ (List.mem_of_getElem? (l := tables_1_2) (i := 196) rfl)))), rfl⟩
theorem cw_271 : Cond.code ⟨"java/lang/String", "coder", "()B"⟩ prog_15_method_152_code 1 (some .byte) ∈ pm_tb := List.mem_filter.mpr ⟨(List.mem_append_right (k2_sels lw_privs) (List.mem_append_right _ (List.mem_append_left _ (List.mem_of_getElem? (l := tables_1_2) (i := 190) rfl)))), rfl⟩
theorem cw_272 : Cond.code ⟨"java/lang/String", "isLatin1", "()Z"⟩ prog_15_method_154_code 1 (some .boolean) ∈ pm_tb := List.mem_filter.mpr ⟨(List.mem_append_right (k2_sels lw_privs) (List.mem_append_right _ (List.mem_append_left _ (List.mem_of_getElem? (l := tables_1_2) (i := 200) rfl)))), rfl⟩
theorem cw_273 : Cond.code ⟨"java/lang/String", "checkIndex", "(II)V"⟩ prog_15_method_155_code 2 none ∈ pm_tb := List.mem_filter.mpr ⟨(List.mem_append_right (k2_sels lw_privs) (List.mem_append_right _ (List.mem_append_left _ (List.mem_of_getElem? (l := tables_1_2) (i := 206) rfl)))), rfl⟩
theorem cw_274 : Cond.code ⟨"java/lang/StringLatin1", "charAt", "([BI)C"⟩ prog_16_method_2_code 2 (some .char) ∈ pm_tb := List.mem_filter.mpr ⟨(List.mem_append_right (k2_sels lw_privs) (List.mem_append_right _ (List.mem_append_left _ (List.mem_of_getElem? (l := tables_1_2) (i := 203) rfl)))), rfl⟩
theorem cw_275 : Cond.code ⟨"jdk/internal/util/Preconditions", "checkIndex", "(IILjava/util/function/BiFunction;)I"⟩ prog_19_method_11_code 3 (some .int) ∈ pm_tb := List.mem_filter.mpr ⟨(List.mem_append_right (k2_sels lw_privs) (List.mem_append_right _ (List.mem_append_left _ (List.mem_of_getElem? (l := tables_1_2) (i := 211) rfl)))), rfl⟩
def pm_cwm (m : Nat) : Prop := Cond.code (pm_y m) (pm_by m) (pm_mxl m) (pm_rt0 m) ∈ pm_tb
theorem cwm_0 : ∀ i, i < 20 → pm_cwm (i + 0)
  | 0, _ => cw_0
  | 1, _ => cw_1
  | 2, _ => cw_2
  | 3, _ => cw_3
  | 4, _ => cw_4
  | 5, _ => cw_5
  | 6, _ => cw_6
  | 7, _ => cw_7
  | 8, _ => cw_8
  | 9, _ => cw_9
  | 10, _ => cw_10
  | 11, _ => cw_11
  | 12, _ => cw_12
  | 13, _ => cw_13
  | 14, _ => cw_14
  | 15, _ => cw_15
  | 16, _ => cw_16
  | 17, _ => cw_17
  | 18, _ => cw_18
  | 19, _ => cw_19
  | n + 20, h => absurd h (by omega)
theorem cwm_20 : ∀ i, i < 20 → pm_cwm (i + 20)
  | 0, _ => cw_20
  | 1, _ => cw_21
  | 2, _ => cw_22
  | 3, _ => cw_23
  | 4, _ => cw_24
  | 5, _ => cw_25
  | 6, _ => cw_26
  | 7, _ => cw_27
  | 8, _ => cw_28
  | 9, _ => cw_29
  | 10, _ => cw_30
  | 11, _ => cw_31
  | 12, _ => cw_32
  | 13, _ => cw_33
  | 14, _ => cw_34
  | 15, _ => cw_35
  | 16, _ => cw_36
  | 17, _ => cw_37
  | 18, _ => cw_38
  | 19, _ => cw_39
  | n + 20, h => absurd h (by omega)
theorem cwm_40 : ∀ i, i < 20 → pm_cwm (i + 40)
  | 0, _ => cw_40
  | 1, _ => cw_41
  | 2, _ => cw_42
  | 3, _ => cw_43
  | 4, _ => cw_44
  | 5, _ => cw_45
  | 6, _ => cw_46
  | 7, _ => cw_47
  | 8, _ => cw_48
  | 9, _ => cw_49
  | 10, _ => cw_50
  | 11, _ => cw_51
  | 12, _ => cw_52
  | 13, _ => cw_53
  | 14, _ => cw_54
  | 15, _ => cw_55
  | 16, _ => cw_56
  | 17, _ => cw_57
  | 18, _ => cw_58
  | 19, _ => cw_59
  | n + 20, h => absurd h (by omega)
theorem cwm_60 : ∀ i, i < 20 → pm_cwm (i + 60)
  | 0, _ => cw_60
  | 1, _ => cw_61
  | 2, _ => cw_62
  | 3, _ => cw_63
  | 4, _ => cw_64
  | 5, _ => cw_65
  | 6, _ => cw_66
  | 7, _ => cw_67
  | 8, _ => cw_68
  | 9, _ => cw_69
  | 10, _ => cw_70
  | 11, _ => cw_71
  | 12, _ => cw_72
  | 13, _ => cw_73
  | 14, _ => cw_74
  | 15, _ => cw_75
  | 16, _ => cw_76
  | 17, _ => cw_77
  | 18, _ => cw_78
  | 19, _ => cw_79
  | n + 20, h => absurd h (by omega)
theorem cwm_80 : ∀ i, i < 20 → pm_cwm (i + 80)
  | 0, _ => cw_80
  | 1, _ => cw_81
  | 2, _ => cw_82
  | 3, _ => cw_83
  | 4, _ => cw_84
  | 5, _ => cw_85
  | 6, _ => cw_86
  | 7, _ => cw_87
  | 8, _ => cw_88
  | 9, _ => cw_89
  | 10, _ => cw_90
  | 11, _ => cw_91
  | 12, _ => cw_92
  | 13, _ => cw_93
  | 14, _ => cw_94
  | 15, _ => cw_95
  | 16, _ => cw_96
  | 17, _ => cw_97
  | 18, _ => cw_98
  | 19, _ => cw_99
  | n + 20, h => absurd h (by omega)
theorem cwm_100 : ∀ i, i < 20 → pm_cwm (i + 100)
  | 0, _ => cw_100
  | 1, _ => cw_101
  | 2, _ => cw_102
  | 3, _ => cw_103
  | 4, _ => cw_104
  | 5, _ => cw_105
  | 6, _ => cw_106
  | 7, _ => cw_107
  | 8, _ => cw_108
  | 9, _ => cw_109
  | 10, _ => cw_110
  | 11, _ => cw_111
  | 12, _ => cw_112
  | 13, _ => cw_113
  | 14, _ => cw_114
  | 15, _ => cw_115
  | 16, _ => cw_116
  | 17, _ => cw_117
  | 18, _ => cw_118
  | 19, _ => cw_119
  | n + 20, h => absurd h (by omega)
theorem cwm_120 : ∀ i, i < 20 → pm_cwm (i + 120)
  | 0, _ => cw_120
  | 1, _ => cw_121
  | 2, _ => cw_122
  | 3, _ => cw_123
  | 4, _ => cw_124
  | 5, _ => cw_125
  | 6, _ => cw_126
  | 7, _ => cw_127
  | 8, _ => cw_128
  | 9, _ => cw_129
  | 10, _ => cw_130
  | 11, _ => cw_131
  | 12, _ => cw_132
  | 13, _ => cw_133
  | 14, _ => cw_134
  | 15, _ => cw_135
  | 16, _ => cw_136
  | 17, _ => cw_137
  | 18, _ => cw_138
  | 19, _ => cw_139
  | n + 20, h => absurd h (by omega)
theorem cwm_140 : ∀ i, i < 20 → pm_cwm (i + 140)
  | 0, _ => cw_140
  | 1, _ => cw_141
  | 2, _ => cw_142
  | 3, _ => cw_143
  | 4, _ => cw_144
  | 5, _ => cw_145
  | 6, _ => cw_146
  | 7, _ => cw_147
  | 8, _ => cw_148
  | 9, _ => cw_149
  | 10, _ => cw_150
  | 11, _ => cw_151
  | 12, _ => cw_152
  | 13, _ => cw_153
  | 14, _ => cw_154
  | 15, _ => cw_155
  | 16, _ => cw_156
  | 17, _ => cw_157
  | 18, _ => cw_158
  | 19, _ => cw_159
  | n + 20, h => absurd h (by omega)
theorem cwm_160 : ∀ i, i < 20 → pm_cwm (i + 160)
  | 0, _ => cw_160
  | 1, _ => cw_161
  | 2, _ => cw_162
  | 3, _ => cw_163
  | 4, _ => cw_164
  | 5, _ => cw_165
  | 6, _ => cw_166
  | 7, _ => cw_167
  | 8, _ => cw_168
  | 9, _ => cw_169
  | 10, _ => cw_170
  | 11, _ => cw_171
  | 12, _ => cw_172
  | 13, _ => cw_173
  | 14, _ => cw_174
  | 15, _ => cw_175
  | 16, _ => cw_176
  | 17, _ => cw_177
  | 18, _ => cw_178
  | 19, _ => cw_179
  | n + 20, h => absurd h (by omega)
theorem cwm_180 : ∀ i, i < 20 → pm_cwm (i + 180)
  | 0, _ => cw_180
  | 1, _ => cw_181
  | 2, _ => cw_182
  | 3, _ => cw_183
  | 4, _ => cw_184
  | 5, _ => cw_185
  | 6, _ => cw_186
  | 7, _ => cw_187
  | 8, _ => cw_188
  | 9, _ => cw_189
  | 10, _ => cw_190
  | 11, _ => cw_191
  | 12, _ => cw_192
  | 13, _ => cw_193
  | 14, _ => cw_194
  | 15, _ => cw_195
  | 16, _ => cw_196
  | 17, _ => cw_197
  | 18, _ => cw_198
  | 19, _ => cw_199
  | n + 20, h => absurd h (by omega)
theorem cwm_200 : ∀ i, i < 20 → pm_cwm (i + 200)
  | 0, _ => cw_200
  | 1, _ => cw_201
  | 2, _ => cw_202
  | 3, _ => cw_203
  | 4, _ => cw_204
  | 5, _ => cw_205
  | 6, _ => cw_206
  | 7, _ => cw_207
  | 8, _ => cw_208
  | 9, _ => cw_209
  | 10, _ => cw_210
  | 11, _ => cw_211
  | 12, _ => cw_212
  | 13, _ => cw_213
  | 14, _ => cw_214
  | 15, _ => cw_215
  | 16, _ => cw_216
  | 17, _ => cw_217
  | 18, _ => cw_218
  | 19, _ => cw_219
  | n + 20, h => absurd h (by omega)
theorem cwm_220 : ∀ i, i < 20 → pm_cwm (i + 220)
  | 0, _ => cw_220
  | 1, _ => cw_221
  | 2, _ => cw_222
  | 3, _ => cw_223
  | 4, _ => cw_224
  | 5, _ => cw_225
  | 6, _ => cw_226
  | 7, _ => cw_227
  | 8, _ => cw_228
  | 9, _ => cw_229
  | 10, _ => cw_230
  | 11, _ => cw_231
  | 12, _ => cw_232
  | 13, _ => cw_233
  | 14, _ => cw_234
  | 15, _ => cw_235
  | 16, _ => cw_236
  | 17, _ => cw_237
  | 18, _ => cw_238
  | 19, _ => cw_239
  | n + 20, h => absurd h (by omega)
theorem cwm_240 : ∀ i, i < 20 → pm_cwm (i + 240)
  | 0, _ => cw_240
  | 1, _ => cw_241
  | 2, _ => cw_242
  | 3, _ => cw_243
  | 4, _ => cw_244
  | 5, _ => cw_245
  | 6, _ => cw_246
  | 7, _ => cw_247
  | 8, _ => cw_248
  | 9, _ => cw_249
  | 10, _ => cw_250
  | 11, _ => cw_251
  | 12, _ => cw_252
  | 13, _ => cw_253
  | 14, _ => cw_254
  | 15, _ => cw_255
  | 16, _ => cw_256
  | 17, _ => cw_257
  | 18, _ => cw_258
  | 19, _ => cw_259
  | n + 20, h => absurd h (by omega)
theorem cwm_260 : ∀ i, i < 16 → pm_cwm (i + 260)
  | 0, _ => cw_260
  | 1, _ => cw_261
  | 2, _ => cw_262
  | 3, _ => cw_263
  | 4, _ => cw_264
  | 5, _ => cw_265
  | 6, _ => cw_266
  | 7, _ => cw_267
  | 8, _ => cw_268
  | 9, _ => cw_269
  | 10, _ => cw_270
  | 11, _ => cw_271
  | 12, _ => cw_272
  | 13, _ => cw_273
  | 14, _ => cw_274
  | 15, _ => cw_275
  | n + 16, h => absurd h (by omega)
theorem cwm_all {m : Nat} (h : m < 276) : pm_cwm m := by
  by_cases h0 : 0 ≤ m ∧ m < 20
  · have := cwm_0 (m - 0) (by omega)
    rw [Nat.sub_add_cancel h0.1] at this
    exact this
  by_cases h20 : 20 ≤ m ∧ m < 40
  · have := cwm_20 (m - 20) (by omega)
    rw [Nat.sub_add_cancel h20.1] at this
    exact this
  by_cases h40 : 40 ≤ m ∧ m < 60
  · have := cwm_40 (m - 40) (by omega)
    rw [Nat.sub_add_cancel h40.1] at this
    exact this
  by_cases h60 : 60 ≤ m ∧ m < 80
  · have := cwm_60 (m - 60) (by omega)
    rw [Nat.sub_add_cancel h60.1] at this
    exact this
  by_cases h80 : 80 ≤ m ∧ m < 100
  · have := cwm_80 (m - 80) (by omega)
    rw [Nat.sub_add_cancel h80.1] at this
    exact this
  by_cases h100 : 100 ≤ m ∧ m < 120
  · have := cwm_100 (m - 100) (by omega)
    rw [Nat.sub_add_cancel h100.1] at this
    exact this
  by_cases h120 : 120 ≤ m ∧ m < 140
  · have := cwm_120 (m - 120) (by omega)
    rw [Nat.sub_add_cancel h120.1] at this
    exact this
  by_cases h140 : 140 ≤ m ∧ m < 160
  · have := cwm_140 (m - 140) (by omega)
    rw [Nat.sub_add_cancel h140.1] at this
    exact this
  by_cases h160 : 160 ≤ m ∧ m < 180
  · have := cwm_160 (m - 160) (by omega)
    rw [Nat.sub_add_cancel h160.1] at this
    exact this
  by_cases h180 : 180 ≤ m ∧ m < 200
  · have := cwm_180 (m - 180) (by omega)
    rw [Nat.sub_add_cancel h180.1] at this
    exact this
  by_cases h200 : 200 ≤ m ∧ m < 220
  · have := cwm_200 (m - 200) (by omega)
    rw [Nat.sub_add_cancel h200.1] at this
    exact this
  by_cases h220 : 220 ≤ m ∧ m < 240
  · have := cwm_220 (m - 220) (by omega)
    rw [Nat.sub_add_cancel h220.1] at this
    exact this
  by_cases h240 : 240 ≤ m ∧ m < 260
  · have := cwm_240 (m - 240) (by omega)
    rw [Nat.sub_add_cancel h240.1] at this
    exact this
  by_cases h260 : 260 ≤ m ∧ m < 280
  · have := cwm_260 (m - 260) (by omega)
    rw [Nat.sub_add_cancel h260.1] at this
    exact this
  omega
theorem mck_0 : (List.range 20).all (fun i => pm_mck (i + 0)) = true := by decide +kernel
theorem mck_20 : (List.range 20).all (fun i => pm_mck (i + 20)) = true := by decide +kernel
theorem mck_40 : (List.range 20).all (fun i => pm_mck (i + 40)) = true := by decide +kernel
theorem mck_60 : (List.range 20).all (fun i => pm_mck (i + 60)) = true := by decide +kernel
theorem mck_80 : (List.range 20).all (fun i => pm_mck (i + 80)) = true := by decide +kernel
theorem mck_100 : (List.range 20).all (fun i => pm_mck (i + 100)) = true := by decide +kernel
theorem mck_120 : (List.range 20).all (fun i => pm_mck (i + 120)) = true := by decide +kernel
theorem mck_140 : (List.range 20).all (fun i => pm_mck (i + 140)) = true := by decide +kernel
theorem mck_160 : (List.range 20).all (fun i => pm_mck (i + 160)) = true := by decide +kernel
theorem mck_180 : (List.range 20).all (fun i => pm_mck (i + 180)) = true := by decide +kernel
theorem mck_200 : (List.range 20).all (fun i => pm_mck (i + 200)) = true := by decide +kernel
theorem mck_220 : (List.range 20).all (fun i => pm_mck (i + 220)) = true := by decide +kernel
theorem mck_240 : (List.range 20).all (fun i => pm_mck (i + 240)) = true := by decide +kernel
theorem mck_260 : (List.range 16).all (fun i => pm_mck (i + 260)) = true := by decide +kernel
theorem mck_all {m : Nat} (h : m < 276) : pm_mck m = true := by
  by_cases h0 : 0 ≤ m ∧ m < 20
  · have := List.all_eq_true.mp mck_0 (m - 0) (List.mem_range.mpr (by omega))
    rw [Nat.sub_add_cancel h0.1] at this
    exact this
  by_cases h20 : 20 ≤ m ∧ m < 40
  · have := List.all_eq_true.mp mck_20 (m - 20) (List.mem_range.mpr (by omega))
    rw [Nat.sub_add_cancel h20.1] at this
    exact this
  by_cases h40 : 40 ≤ m ∧ m < 60
  · have := List.all_eq_true.mp mck_40 (m - 40) (List.mem_range.mpr (by omega))
    rw [Nat.sub_add_cancel h40.1] at this
    exact this
  by_cases h60 : 60 ≤ m ∧ m < 80
  · have := List.all_eq_true.mp mck_60 (m - 60) (List.mem_range.mpr (by omega))
    rw [Nat.sub_add_cancel h60.1] at this
    exact this
  by_cases h80 : 80 ≤ m ∧ m < 100
  · have := List.all_eq_true.mp mck_80 (m - 80) (List.mem_range.mpr (by omega))
    rw [Nat.sub_add_cancel h80.1] at this
    exact this
  by_cases h100 : 100 ≤ m ∧ m < 120
  · have := List.all_eq_true.mp mck_100 (m - 100) (List.mem_range.mpr (by omega))
    rw [Nat.sub_add_cancel h100.1] at this
    exact this
  by_cases h120 : 120 ≤ m ∧ m < 140
  · have := List.all_eq_true.mp mck_120 (m - 120) (List.mem_range.mpr (by omega))
    rw [Nat.sub_add_cancel h120.1] at this
    exact this
  by_cases h140 : 140 ≤ m ∧ m < 160
  · have := List.all_eq_true.mp mck_140 (m - 140) (List.mem_range.mpr (by omega))
    rw [Nat.sub_add_cancel h140.1] at this
    exact this
  by_cases h160 : 160 ≤ m ∧ m < 180
  · have := List.all_eq_true.mp mck_160 (m - 160) (List.mem_range.mpr (by omega))
    rw [Nat.sub_add_cancel h160.1] at this
    exact this
  by_cases h180 : 180 ≤ m ∧ m < 200
  · have := List.all_eq_true.mp mck_180 (m - 180) (List.mem_range.mpr (by omega))
    rw [Nat.sub_add_cancel h180.1] at this
    exact this
  by_cases h200 : 200 ≤ m ∧ m < 220
  · have := List.all_eq_true.mp mck_200 (m - 200) (List.mem_range.mpr (by omega))
    rw [Nat.sub_add_cancel h200.1] at this
    exact this
  by_cases h220 : 220 ≤ m ∧ m < 240
  · have := List.all_eq_true.mp mck_220 (m - 220) (List.mem_range.mpr (by omega))
    rw [Nat.sub_add_cancel h220.1] at this
    exact this
  by_cases h240 : 240 ≤ m ∧ m < 260
  · have := List.all_eq_true.mp mck_240 (m - 240) (List.mem_range.mpr (by omega))
    rw [Nat.sub_add_cancel h240.1] at this
    exact this
  by_cases h260 : 260 ≤ m ∧ m < 276
  · have := List.all_eq_true.mp mck_260 (m - 260) (List.mem_range.mpr (by omega))
    rw [Nat.sub_add_cancel h260.1] at this
    exact this
  omega
theorem tf_lnk {m idx m' : Nat} (h : pm_lk (pm_nth pm_L (pm_own m) []) idx = some m') (h2 : m' < 1000) : Cond.methodLink (pm_on m) idx (pm_y m') ∈ pm_tb ∧ Cond.code (pm_y m') (pm_by m') (pm_mxl m') (pm_rt0 m') ∈ pm_tb ∧ plainName (pm_y m').cls = true ∧ pm_on m' = (pm_y m').cls ∧ Cond.initialized (pm_y m').cls ∈ pm_tb ∧ ((pm_y m').cls ≠ "java/lang/invoke/MethodHandle" ∧ (pm_y m').cls ≠ "java/lang/invoke/VarHandle") ∧ (pm_cls m' = 0 → Cond.static (pm_y m') ∈ pm_tb ∧ (parseMethodDescriptor (pm_y m').desc).map (fun d => d.parameters.length) = some (pm_na m')) ∧ (pm_cls m' ≠ 0 → (pm_cls m' ≤ 9 ∨ pm_cls m' = 61) ∧ Cond.instanceMethod (pm_y m') ∈ pm_tb ∧ Cond.selects (pm_cn m') (pm_y m') (pm_y m') ∈ pm_tb ∧ (pm_y m').cls = pm_cn m' ∧ (parseMethodDescriptor (pm_y m').desc).map (fun d => d.parameters.length + 1) = some (pm_na m')) := by
  obtain ⟨i, hi⟩ := pm_tab2 L2_eq (N := 17) (by decide) lck_all h
  unfold pm_lck at hi
  dsimp only at hi
  rw [if_neg (by omega), if_neg (by omega), if_neg (by omega), if_neg (by omega), Bool.and_eq_true, decide_eq_true_eq] at hi
  have hm := mck_all hi.1
  unfold pm_mck at hm
  split at hm
  simp only [Bool.and_eq_true, decide_eq_true_eq] at hm
  obtain ⟨⟨⟨⟨m2, m3⟩, m4⟩, m5⟩, m6⟩ := hm
  have m1 := cwm_all hi.1
  refine ⟨pm_is_tb hi.2, m1, m3, m4, pm_is_tb m2, m5, fun z => ?_, fun z => ?_⟩
  · rw [if_pos z] at m6
    simp only [Bool.and_eq_true, decide_eq_true_eq] at m6
    exact ⟨pm_is_tb m6.1, m6.2⟩
  · rw [if_neg z] at m6
    simp only [Bool.and_eq_true, decide_eq_true_eq] at m6
    obtain ⟨⟨⟨⟨n1, n2⟩, n3⟩, n4⟩, n5⟩ := m6
    exact ⟨n1, pm_is_tb n2, pm_is_tb n3, n4, n5⟩
theorem mth_ws : (lw_tbl.any (fun w => decide (w = Cond.static Lib.Math.abs.name) && goodWord w) && lw_tbl.any (fun w => decide (w = Cond.static Lib.Math.max.name) && goodWord w) && lw_tbl.any (fun w => decide (w = Cond.static Lib.Math.min.name) && goodWord w) && lw_tbl.any (fun w => decide (w = Cond.initialized "java/lang/Math") && goodWord w)) = true := by decide +kernel
theorem tf_mabs : Cond.code Lib.Math.abs.name Lib.Math.abs.code 1 (some .int) ∈ pm_tb := by
  have h : prog_14_method_59_code = Lib.Math.abs.code := by decide +kernel
  rw [← h]
  exact List.mem_filter.mpr ⟨(List.mem_append_right (k2_sels lw_privs) (List.mem_append_right _ (List.mem_append_right _ (List.mem_append_left _ (List.mem_of_getElem? (l := tables_1_3) (i := 213) rfl))))), rfl⟩
theorem tf_mmax : Cond.code Lib.Math.max.name Lib.Math.max.code 2 (some .int) ∈ pm_tb := by
  have h : prog_14_method_65_code = Lib.Math.max.code := by decide +kernel
  rw [← h]
  exact List.mem_filter.mpr ⟨(List.mem_append_right (k2_sels lw_privs) (List.mem_append_right _ (List.mem_append_right _ (List.mem_append_left _ (List.mem_of_getElem? (l := tables_1_3) (i := 46) rfl))))), rfl⟩
theorem tf_mmin : Cond.code Lib.Math.min.name Lib.Math.min.code 2 (some .int) ∈ pm_tb := by
  have h : prog_14_method_69_code = Lib.Math.min.code := by decide +kernel
  rw [← h]
  exact List.mem_filter.mpr ⟨(List.mem_append_right (k2_sels lw_privs) (List.mem_append_right _ (List.mem_append_right _ (List.mem_append_right _ (List.mem_append_left _ (List.mem_of_getElem? (l := tables_1_4) (i := 144) rfl)))))), rfl⟩
def pm_mn (n : Nat) : MethodName := match n with
  | 1001 => Lib.Math.abs.name
  | 1002 => Lib.Math.max.name
  | _ => Lib.Math.min.name
theorem tf_mth {m idx n : Nat} (h : pm_lk (pm_nth pm_L (pm_own m) []) idx = some n) (hn : n = 1001 ∨ n = 1002 ∨ n = 1003) : Cond.methodLink (pm_on m) idx (pm_mn n) ∈ pm_tb := by
  obtain ⟨i, hi⟩ := pm_tab2 L2_eq (N := 17) (by decide) lck_all h
  unfold pm_lck at hi
  dsimp only at hi
  rcases hn with z | z | z
  · subst z
    exact pm_is_tb hi
  · subst z
    exact pm_is_tb hi
  · subst z
    exact pm_is_tb hi
theorem acp_ws : (lw_tbl.any (fun w => decide (w = Cond.native arraycopyName) && goodWord w) && lw_tbl.any (fun w => decide (w = Cond.static arraycopyName) && goodWord w) && lw_tbl.any (fun w => decide (w = Cond.initialized "java/lang/System") && goodWord w)) = true := by decide +kernel
theorem pm_any_tb {w : Cond} (h : lw_tbl.any (fun v => decide (v = w) && goodWord v) = true) : w ∈ pm_tb := by
  obtain ⟨v, h1, h2⟩ := List.any_eq_true.mp h
  rw [Bool.and_eq_true, decide_eq_true_eq] at h2
  rw [← h2.1]
  exact List.mem_filter.mpr ⟨h1, h2.2⟩
theorem tf_mws : (Cond.static Lib.Math.abs.name ∈ pm_tb ∧ Cond.static Lib.Math.max.name ∈ pm_tb ∧ Cond.static Lib.Math.min.name ∈ pm_tb) ∧ Cond.initialized "java/lang/Math" ∈ pm_tb := by
  have h3 := mth_ws
  simp only [Bool.and_eq_true] at h3
  exact ⟨⟨pm_any_tb h3.1.1.1, pm_any_tb h3.1.1.2, pm_any_tb h3.1.2⟩, pm_any_tb h3.2⟩
theorem tf_acp {m idx : Nat} (h : pm_lk (pm_nth pm_L (pm_own m) []) idx = some 1000) : Cond.methodLink (pm_on m) idx arraycopyName ∈ pm_tb ∧ Cond.native arraycopyName ∈ pm_tb ∧ Cond.static arraycopyName ∈ pm_tb ∧ Cond.initialized "java/lang/System" ∈ pm_tb := by
  obtain ⟨i, hi⟩ := pm_tab2 L2_eq (N := 17) (by decide) lck_all h
  unfold pm_lck at hi
  dsimp only at hi
  rw [if_pos rfl] at hi
  have h3 := acp_ws
  simp only [Bool.and_eq_true] at h3
  exact ⟨pm_is_tb hi, pm_any_tb h3.1.1, pm_any_tb h3.1.2, pm_any_tb h3.2⟩
def pm_rck (m : Nat) : Bool := match pm_ret m with
  | 0 => decide (pm_rt0 m = none)
  | 1 => decide (pm_rt0 m = some .int)
  | 2 => decide (pm_rt0 m = some .boolean)
  | 3 => decide (pm_rt0 m = some .long)
  | 4 => (match pm_rt0 m with | some (.object _) => true | _ => false)
  | 5 => decide (pm_rt0 m = some .char)
  | 6 => decide (pm_rt0 m = some .byte)
  | _ => false
theorem rck_all : (List.range 277).all pm_rck = true := by decide +kernel
theorem tf_ret (m : Nat) : (pm_ret m = 0 → pm_rt0 m = none) ∧ (pm_ret m = 1 → pm_rt0 m = some .int) ∧ (pm_ret m = 2 → pm_rt0 m = some .boolean) ∧ (pm_ret m = 3 → pm_rt0 m = some .long) ∧ (pm_ret m = 4 → ∃ n, pm_rt0 m = some (.object n)) ∧ (pm_ret m = 5 → pm_rt0 m = some .char) ∧ (pm_ret m = 6 → pm_rt0 m = some .byte) := by
  by_cases hm : m < 277
  · have h := List.all_eq_true.mp rck_all m (List.mem_range.mpr hm)
    unfold pm_rck at h
    refine ⟨fun z => ?_, fun z => ?_, fun z => ?_, fun z => ?_, fun z => ?_, fun z => ?_, fun z => ?_⟩ <;> rw [z] at h
    · exact of_decide_eq_true h
    · exact of_decide_eq_true h
    · exact of_decide_eq_true h
    · exact of_decide_eq_true h
    · have h : (match pm_rt0 m with | some (.object _) => true | _ => false) = true := h
      split at h
      · exact ⟨_, by assumption⟩
      · cases h
    · exact of_decide_eq_true h
    · exact of_decide_eq_true h
  · have e1 : pm_ret m = 0 := by
      have h0 : Nat.blt m 277 = false := by
        cases h : Nat.blt m 277 with
        | false => rfl
        | true => exact absurd (Nat.le_of_ble_eq_true h) (by omega)
      unfold pm_ret pm_M
      rw [h0]
      rfl
    have e2 : pm_rt0 m = none := by
      unfold pm_rt0
      rw [List.getD_eq_getElem?_getD, List.getElem?_eq_none_iff.mpr (by rw [show pm_Y.length = 277 by decide +kernel]; exact Nat.not_lt.mp hm)]
      rfl
    rw [e1]
    exact ⟨fun _ => e2, (fun z => by cases z), (fun z => by cases z), (fun z => by cases z), (fun z => by cases z), (fun z => by cases z), (fun z => by cases z)⟩
theorem obs_nd : pm_obs.Nodup := by decide +kernel
theorem tf_nod : ∀ i j : Nat, ∀ q : Nat × Nat, pm_obs[i]? = some q → pm_obs[j]? = some q → i = j := by
  intro i j q hi hj
  obtain ⟨hi1, hi2⟩ := List.getElem?_eq_some_iff.mp hi
  obtain ⟨hj1, hj2⟩ := List.getElem?_eq_some_iff.mp hj
  have hp := List.pairwise_iff_getElem.mp obs_nd
  rcases Nat.lt_trichotomy i j with h | h | h
  · exact absurd (hi2.trans hj2.symm) (hp i j hi1 hj1 h)
  · exact h
  · exact absurd (hj2.trans hi2.symm) (hp j i hj1 hi1 h)
theorem obs_tag : pm_obs.all (fun q => decide (q.1 < 9 ∨ (10 ≤ q.1 ∧ q.1 < 44))) = true := by decide +kernel
theorem tf_tag : ∀ q ∈ pm_obs, q.1 < 9 ∨ (10 ≤ q.1 ∧ q.1 < 44) := fun q hq => of_decide_eq_true (List.all_eq_true.mp obs_tag q hq)
def pm_oin (v : PV) : Bool := match v with
  | some (.inr (.inr (some q))) => decide (q ∈ pm_obs)
  | _ => false
theorem obs_rf : pm_obs.all (fun q => decide (9 ≤ q.1) || (List.range (pm_nf q.1)).all (fun k => decide (pm_fty q.1 k ≠ 3) || pm_oin (pm_rf q.1 k q.2))) = true := by decide +kernel
theorem tf_rf : ∀ q ∈ pm_obs, q.1 < 9 → ∀ k, k < pm_nf q.1 → pm_fty q.1 k = 3 → pm_okv (pm_rf q.1 k q.2) := by
  intro q hq h9 k hk hf
  have h := List.all_eq_true.mp obs_rf q hq
  rw [Bool.or_eq_true] at h
  have h := h.resolve_left (by simp; omega)
  have h := List.all_eq_true.mp h k (List.mem_range.mpr hk)
  rw [Bool.or_eq_true] at h
  have h := h.resolve_left (by simp [hf])
  unfold pm_oin at h
  split at h
  · rename_i e
    rw [e]
    exact Or.inl (of_decide_eq_true h)
  · cases h
theorem obs_ar : pm_obs.all (fun q => decide (q.1 < 10) || decide (pm_ak q.1 ≠ 3) || (List.range (pm_nth pm_at (q.1 - 10) (9, 0)).2).all (fun j => pm_oin (pm_aref q.1 q.2 j))) = true := by decide +kernel
theorem tf_ar : ∀ q ∈ pm_obs, 10 ≤ q.1 → pm_ak q.1 = 3 → ∀ j, j < (pm_nth pm_at (q.1 - 10) (9, 0)).2 → ∃ i, pm_aref q.1 q.2 j = vr (pm_nth pm_ra (q.1 - 10) (0, 0, 0)).1 i ∧ ((pm_nth pm_ra (q.1 - 10) (0, 0, 0)).1, i) ∈ pm_obs := by
  intro q hq h10 h3 j hj
  have h := List.all_eq_true.mp obs_ar q hq
  rw [Bool.or_eq_true, Bool.or_eq_true] at h
  have h := h.resolve_left (by simp; omega)
  have h := List.all_eq_true.mp h j (List.mem_range.mpr hj)
  have e : pm_aref q.1 q.2 j = vr (pm_nth pm_ra (q.1 - 10) (0, 0, 0)).1 (j + ((pm_nth pm_ra (q.1 - 10) (0, 0, 0)).2.1 * q.2 + (pm_nth pm_ra (q.1 - 10) (0, 0, 0)).2.2)) := by
    unfold pm_aref
    rfl
  refine ⟨_, e, ?_⟩
  rw [e] at h
  exact of_decide_eq_true h
theorem rt_lt : pm_rt.all (fun l => l.all (fun x => decide (x.1 < 60))) = true := by decide +kernel
theorem tf_r67 : ∀ t k i : Nat, ∃ tt ii, pm_rf t k i = vr tt ii ∧ tt ≠ 67 := by
  intro t k i
  have hlt : (pm_nth (pm_nth pm_rt t []) k (0, 0, 0)).1 < 60 := by
    rw [pm_nth_eq, pm_nth_eq]
    rw [List.getD_eq_getElem?_getD (l := pm_rt.getD t [])]
    cases e : (pm_rt.getD t [])[k]? with
    | none => decide
    | some x =>
      have hx := List.mem_of_getElem? e
      rw [List.getD_eq_getElem?_getD] at hx
      cases e2 : pm_rt[t]? with
      | none => rw [e2] at hx; cases hx
      | some l =>
        rw [e2] at hx
        exact of_decide_eq_true (List.all_eq_true.mp (List.all_eq_true.mp rt_lt l (List.mem_of_getElem? e2)) x hx)
  unfold pm_rf
  split
  · rename_i t' b e
    rw [e] at hlt
    exact ⟨_, _, rfl, by simp only at hlt; omega⟩
  · rename_i t' a b h0 e
    rw [e] at hlt
    exact ⟨_, _, rfl, by simp only at hlt; omega⟩

theorem uws_0 : (List.range 16).all (fun k => pm_is (([198, 200, 202, 204, 206, 208, 210, 212, 214, 216, 218, 220, 222, 224, 226, 228] : List Nat).getD k 0) (u_lay RX0 TX0 k)) = true := by decide +kernel
theorem uws_1 : (List.range 6).all (fun k => pm_is (([385, 387, 389, 391, 393, 395] : List Nat).getD k 0) (u_lay RX1 TX1 k)) = true := by decide +kernel
theorem uws_2 : (List.range 7).all (fun k => pm_is (([268, 270, 272, 274, 276, 278, 280] : List Nat).getD k 0) (u_lay RX2 TX2 k)) = true := by decide +kernel
theorem uws_3 : (List.range 3).all (fun k => pm_is (([245, 247, 249] : List Nat).getD k 0) (u_lay RX3 TX3 k)) = true := by decide +kernel
theorem uws_4 : (List.range 12).all (fun k => pm_is (([345, 347, 349, 351, 353, 355, 357, 359, 361, 363, 365, 367] : List Nat).getD k 0) (u_lay RX4 TX4 k)) = true := by decide +kernel
theorem uws_5 : (List.range 7).all (fun k => pm_is (([413, 415, 417, 419, 421, 423, 425] : List Nat).getD k 0) (u_lay RX6 TX6 k)) = true := by decide +kernel
theorem uws_6 : (List.range 8).all (fun k => pm_is (([298, 300, 302, 304, 306, 308, 310, 312] : List Nat).getD k 0) (u_lay RX7 TX7 k)) = true := by decide +kernel
theorem uws_7 : (List.range 7).all (fun k => pm_is (([436, 438, 440, 442, 444, 446, 448] : List Nat).getD k 0) (u_lay RX8 TX8 k)) = true := by decide +kernel
theorem uws_8 : (List.range 37).all (fun k => pm_is (([1232, 1234, 1236, 1238, 1240, 1242, 1244, 1246, 1248, 1250, 1252, 1254, 1256, 1258, 1260, 1262, 1264, 1266, 1268, 1270, 1272, 1274, 1276, 1278, 1280, 1282, 1284, 1286, 1288, 1290, 1292, 1294, 1296, 1298, 1300, 1302, 1304] : List Nat).getD k 0) (u_lay RX9 TX9 k)) = true := by decide +kernel
theorem tf_cls {ci : Nat} {C : String} {T : u_T} {N : Nat} (h : vwCl[ci]? = some (C, T, N)) : (∀ w ∈ u_ws C T N, w ∈ pm_tb) ∧ (∃ ty : Nat → FieldType, ∀ k, k < N → parseFieldDescriptor (T k).2.2.1 = some (ty k)) ∧ (∀ a, a < N → ∀ b, b < N → a ≠ b → (T a).2.1 ≠ (T b).2.1) := by
  match ci, h with
  | 0, h =>
    cases h
    exact ⟨fun w hw => by
      obtain ⟨k, hk, e⟩ := List.mem_map.mp hw
      rw [← e]
      exact pm_is_tb (List.all_eq_true.mp uws_0 k hk), ⟨tyX0, tyX0_ok⟩, nmX0⟩
  | 1, h =>
    cases h
    exact ⟨fun w hw => by
      obtain ⟨k, hk, e⟩ := List.mem_map.mp hw
      rw [← e]
      exact pm_is_tb (List.all_eq_true.mp uws_1 k hk), ⟨tyX1, tyX1_ok⟩, nmX1⟩
  | 2, h =>
    cases h
    exact ⟨fun w hw => by
      obtain ⟨k, hk, e⟩ := List.mem_map.mp hw
      rw [← e]
      exact pm_is_tb (List.all_eq_true.mp uws_2 k hk), ⟨tyX2, tyX2_ok⟩, nmX2⟩
  | 3, h =>
    cases h
    exact ⟨fun w hw => by
      obtain ⟨k, hk, e⟩ := List.mem_map.mp hw
      rw [← e]
      exact pm_is_tb (List.all_eq_true.mp uws_3 k hk), ⟨tyX3, tyX3_ok⟩, nmX3⟩
  | 4, h =>
    cases h
    exact ⟨fun w hw => by
      obtain ⟨k, hk, e⟩ := List.mem_map.mp hw
      rw [← e]
      exact pm_is_tb (List.all_eq_true.mp uws_4 k hk), ⟨tyX4, tyX4_ok⟩, nmX4⟩
  | 5, h =>
    cases h
    exact ⟨fun w hw => by
      obtain ⟨k, hk, e⟩ := List.mem_map.mp hw
      rw [← e]
      exact pm_is_tb (List.all_eq_true.mp uws_5 k hk), ⟨tyX6, tyX6_ok⟩, nmX6⟩
  | 6, h =>
    cases h
    exact ⟨fun w hw => by
      obtain ⟨k, hk, e⟩ := List.mem_map.mp hw
      rw [← e]
      exact pm_is_tb (List.all_eq_true.mp uws_6 k hk), ⟨tyX7, tyX7_ok⟩, nmX7⟩
  | 7, h =>
    cases h
    exact ⟨fun w hw => by
      obtain ⟨k, hk, e⟩ := List.mem_map.mp hw
      rw [← e]
      exact pm_is_tb (List.all_eq_true.mp uws_7 k hk), ⟨tyX8, tyX8_ok⟩, nmX8⟩
  | 8, h =>
    cases h
    exact ⟨fun w hw => by
      obtain ⟨k, hk, e⟩ := List.mem_map.mp hw
      rw [← e]
      exact pm_is_tb (List.all_eq_true.mp uws_8 k hk), ⟨tyX9, tyX9_ok⟩, nmX9⟩
  | n + 9, h => exact absurd h (by simp)
