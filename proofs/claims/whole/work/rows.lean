section
-- ===== PART A: goes FIRST, ahead of the names: the tables' words, and 'selects' of the private methods out of them =====
/-- a private method of a class that the tables say can be made, by its rows of tables_1 -/
def lw_okq (q : MethodName × Nat) : Prop := (q.1.cls ≠ "java/lang/invoke/MethodHandle" ∧ q.1.cls ≠ "java/lang/invoke/VarHandle") ∧ Cond.instantiable q.1.cls q.2 ∈ tables_1 ∧ Cond.privateMethod q.1 ∈ tables_1 ∧ Cond.instanceMethod q.1 ∈ tables_1
theorem lw_p0 : lw_okq (⟨"IllLight$Reader", "begin", "()V"⟩, 12) := ⟨⟨by decide +kernel, by decide +kernel⟩, List.mem_of_getElem? (i := 205) (by decide +kernel), List.mem_of_getElem? (i := 364) (by decide +kernel), List.mem_of_getElem? (i := 365) (by decide +kernel)⟩
theorem lw_p1 : lw_okq (⟨"IllLight$Reader", "advance", "([II)V"⟩, 12) := ⟨⟨by decide +kernel, by decide +kernel⟩, List.mem_of_getElem? (i := 205) (by decide +kernel), List.mem_of_getElem? (i := 376) (by decide +kernel), List.mem_of_getElem? (i := 377) (by decide +kernel)⟩
theorem lw_p2 : lw_okq (⟨"IllLight$Reader", "readLine", "([III)Z"⟩, 12) := ⟨⟨by decide +kernel, by decide +kernel⟩, List.mem_of_getElem? (i := 205) (by decide +kernel), List.mem_of_getElem? (i := 386) (by decide +kernel), List.mem_of_getElem? (i := 387) (by decide +kernel)⟩
theorem lw_p3 : lw_okq (⟨"IllLight$Reader", "wordHere", "([II)I"⟩, 12) := ⟨⟨by decide +kernel, by decide +kernel⟩, List.mem_of_getElem? (i := 205) (by decide +kernel), List.mem_of_getElem? (i := 390) (by decide +kernel), List.mem_of_getElem? (i := 391) (by decide +kernel)⟩
theorem lw_p4 : lw_okq (⟨"IllLight$Reader", "isHere", "([ILjava/lang/String;)Z"⟩, 12) := ⟨⟨by decide +kernel, by decide +kernel⟩, List.mem_of_getElem? (i := 205) (by decide +kernel), List.mem_of_getElem? (i := 420) (by decide +kernel), List.mem_of_getElem? (i := 421) (by decide +kernel)⟩
theorem lw_p5 : lw_okq (⟨"IllLight$Reader", "noteTooMany", "(I)V"⟩, 12) := ⟨⟨by decide +kernel, by decide +kernel⟩, List.mem_of_getElem? (i := 205) (by decide +kernel), List.mem_of_getElem? (i := 472) (by decide +kernel), List.mem_of_getElem? (i := 473) (by decide +kernel)⟩
theorem lw_p6 : lw_okq (⟨"IllLight$Reader", "note", "(II)V"⟩, 12) := ⟨⟨by decide +kernel, by decide +kernel⟩, List.mem_of_getElem? (i := 205) (by decide +kernel), List.mem_of_getElem? (i := 486) (by decide +kernel), List.mem_of_getElem? (i := 487) (by decide +kernel)⟩
theorem lw_p7 : lw_okq (⟨"IllLight$Reader", "numberHere", "([I)I"⟩, 12) := ⟨⟨by decide +kernel, by decide +kernel⟩, List.mem_of_getElem? (i := 205) (by decide +kernel), List.mem_of_getElem? (i := 492) (by decide +kernel), List.mem_of_getElem? (i := 493) (by decide +kernel)⟩
theorem lw_p8 : lw_okq (⟨"IllLight$Reader", "tell", "(I)V"⟩, 12) := ⟨⟨by decide +kernel, by decide +kernel⟩, List.mem_of_getElem? (i := 205) (by decide +kernel), List.mem_of_getElem? (i := 501) (by decide +kernel), List.mem_of_getElem? (i := 502) (by decide +kernel)⟩
theorem lw_p9 : lw_okq (⟨"IllLight$Reader", "tellLog", "(I)V"⟩, 12) := ⟨⟨by decide +kernel, by decide +kernel⟩, List.mem_of_getElem? (i := 205) (by decide +kernel), List.mem_of_getElem? (i := 509) (by decide +kernel), List.mem_of_getElem? (i := 510) (by decide +kernel)⟩
theorem lw_p10 : lw_okq (⟨"IllLight$Reader", "tellMan", "(I)V"⟩, 12) := ⟨⟨by decide +kernel, by decide +kernel⟩, List.mem_of_getElem? (i := 205) (by decide +kernel), List.mem_of_getElem? (i := 521) (by decide +kernel), List.mem_of_getElem? (i := 522) (by decide +kernel)⟩
theorem lw_p11 : lw_okq (⟨"IllLight$Reader", "tellCoast", "(I)V"⟩, 12) := ⟨⟨by decide +kernel, by decide +kernel⟩, List.mem_of_getElem? (i := 205) (by decide +kernel), List.mem_of_getElem? (i := 533) (by decide +kernel), List.mem_of_getElem? (i := 534) (by decide +kernel)⟩
theorem lw_p12 : lw_okq (⟨"IllLight$Reader", "lookForWhatIsNotThere", "(I)V"⟩, 12) := ⟨⟨by decide +kernel, by decide +kernel⟩, List.mem_of_getElem? (i := 205) (by decide +kernel), List.mem_of_getElem? (i := 545) (by decide +kernel), List.mem_of_getElem? (i := 546) (by decide +kernel)⟩
theorem lw_p13 : lw_okq (⟨"IllLight", "coastAt", "(I)LIllLight$Coast;"⟩, 7) := ⟨⟨by decide +kernel, by decide +kernel⟩, List.mem_of_getElem? (i := 20) (by decide +kernel), List.mem_of_getElem? (i := 581) (by decide +kernel), List.mem_of_getElem? (i := 582) (by decide +kernel)⟩
theorem lw_p14 : lw_okq (⟨"IllLight$Coast", "toldOfOne", "(II)I"⟩, 16) := ⟨⟨by decide +kernel, by decide +kernel⟩, List.mem_of_getElem? (i := 39) (by decide +kernel), List.mem_of_getElem? (i := 593) (by decide +kernel), List.mem_of_getElem? (i := 594) (by decide +kernel)⟩
theorem lw_p15 : lw_okq (⟨"IllLight$Coast", "toldOfRock", "(I)I"⟩, 16) := ⟨⟨by decide +kernel, by decide +kernel⟩, List.mem_of_getElem? (i := 39) (by decide +kernel), List.mem_of_getElem? (i := 597) (by decide +kernel), List.mem_of_getElem? (i := 598) (by decide +kernel)⟩
def lw_privs_1 : List (MethodName × Nat) := [(⟨"IllLight$Reader", "begin", "()V"⟩, 12), (⟨"IllLight$Reader", "advance", "([II)V"⟩, 12), (⟨"IllLight$Reader", "readLine", "([III)Z"⟩, 12), (⟨"IllLight$Reader", "wordHere", "([II)I"⟩, 12), (⟨"IllLight$Reader", "isHere", "([ILjava/lang/String;)Z"⟩, 12), (⟨"IllLight$Reader", "noteTooMany", "(I)V"⟩, 12), (⟨"IllLight$Reader", "note", "(II)V"⟩, 12), (⟨"IllLight$Reader", "numberHere", "([I)I"⟩, 12), (⟨"IllLight$Reader", "tell", "(I)V"⟩, 12), (⟨"IllLight$Reader", "tellLog", "(I)V"⟩, 12), (⟨"IllLight$Reader", "tellMan", "(I)V"⟩, 12), (⟨"IllLight$Reader", "tellCoast", "(I)V"⟩, 12), (⟨"IllLight$Reader", "lookForWhatIsNotThere", "(I)V"⟩, 12), (⟨"IllLight", "coastAt", "(I)LIllLight$Coast;"⟩, 7), (⟨"IllLight$Coast", "toldOfOne", "(II)I"⟩, 16), (⟨"IllLight$Coast", "toldOfRock", "(I)I"⟩, 16)]
theorem lw_r1 : ∀ q ∈ lw_privs_1, lw_okq q := List.forall_mem_cons.mpr ⟨lw_p0, List.forall_mem_cons.mpr ⟨lw_p1, List.forall_mem_cons.mpr ⟨lw_p2, List.forall_mem_cons.mpr ⟨lw_p3, List.forall_mem_cons.mpr ⟨lw_p4, List.forall_mem_cons.mpr ⟨lw_p5, List.forall_mem_cons.mpr ⟨lw_p6, List.forall_mem_cons.mpr ⟨lw_p7, List.forall_mem_cons.mpr ⟨lw_p8, List.forall_mem_cons.mpr ⟨lw_p9, List.forall_mem_cons.mpr ⟨lw_p10, List.forall_mem_cons.mpr ⟨lw_p11, List.forall_mem_cons.mpr ⟨lw_p12, List.forall_mem_cons.mpr ⟨lw_p13, List.forall_mem_cons.mpr ⟨lw_p14, List.forall_mem_cons.mpr ⟨lw_p15, fun _ h => absurd h List.not_mem_nil⟩⟩⟩⟩⟩⟩⟩⟩⟩⟩⟩⟩⟩⟩⟩⟩
theorem lw_p16 : lw_okq (⟨"IllLight", "nightAt", "(I)LIllLight$Night;"⟩, 7) := ⟨⟨by decide +kernel, by decide +kernel⟩, List.mem_of_getElem? (i := 20) (by decide +kernel), List.mem_of_getElem? (i := 621) (by decide +kernel), List.mem_of_getElem? (i := 622) (by decide +kernel)⟩
theorem lw_p17 : lw_okq (⟨"IllLight$Course", "begin", "(LIllLight$Coast;)V"⟩, 6) := ⟨⟨by decide +kernel, by decide +kernel⟩, List.mem_of_getElem? (i := 260) (by decide +kernel), List.mem_of_getElem? (i := 663) (by decide +kernel), List.mem_of_getElem? (i := 664) (by decide +kernel)⟩
theorem lw_p18 : lw_okq (⟨"IllLight$Course", "pass", "()Z"⟩, 6) := ⟨⟨by decide +kernel, by decide +kernel⟩, List.mem_of_getElem? (i := 260) (by decide +kernel), List.mem_of_getElem? (i := 668) (by decide +kernel), List.mem_of_getElem? (i := 669) (by decide +kernel)⟩
theorem lw_p19 : lw_okq (⟨"IllLight$Course", "beam", "()I"⟩, 6) := ⟨⟨by decide +kernel, by decide +kernel⟩, List.mem_of_getElem? (i := 260) (by decide +kernel), List.mem_of_getElem? (i := 672) (by decide +kernel), List.mem_of_getElem? (i := 673) (by decide +kernel)⟩
theorem lw_p20 : lw_okq (⟨"IllLight$Course", "isLost", "(I)Z"⟩, 6) := ⟨⟨by decide +kernel, by decide +kernel⟩, List.mem_of_getElem? (i := 260) (by decide +kernel), List.mem_of_getElem? (i := 676) (by decide +kernel), List.mem_of_getElem? (i := 677) (by decide +kernel)⟩
theorem lw_p21 : lw_okq (⟨"IllLight$Course", "whoseLight", "(I)I"⟩, 6) := ⟨⟨by decide +kernel, by decide +kernel⟩, List.mem_of_getElem? (i := 260) (by decide +kernel), List.mem_of_getElem? (i := 680) (by decide +kernel), List.mem_of_getElem? (i := 681) (by decide +kernel)⟩
theorem lw_p22 : lw_okq (⟨"IllLight$Course", "act", "(IIII)Z"⟩, 6) := ⟨⟨by decide +kernel, by decide +kernel⟩, List.mem_of_getElem? (i := 260) (by decide +kernel), List.mem_of_getElem? (i := 713) (by decide +kernel), List.mem_of_getElem? (i := 714) (by decide +kernel)⟩
theorem lw_p23 : lw_okq (⟨"IllLight$Course", "sail", "(II)Z"⟩, 6) := ⟨⟨by decide +kernel, by decide +kernel⟩, List.mem_of_getElem? (i := 260) (by decide +kernel), List.mem_of_getElem? (i := 718) (by decide +kernel), List.mem_of_getElem? (i := 719) (by decide +kernel)⟩
theorem lw_p24 : lw_okq (⟨"IllLight$Course", "throwOut", "(I)Z"⟩, 6) := ⟨⟨by decide +kernel, by decide +kernel⟩, List.mem_of_getElem? (i := 260) (by decide +kernel), List.mem_of_getElem? (i := 728) (by decide +kernel), List.mem_of_getElem? (i := 729) (by decide +kernel)⟩
theorem lw_p25 : lw_okq (⟨"IllLight$Course", "toldOfShip", "(II)I"⟩, 6) := ⟨⟨by decide +kernel, by decide +kernel⟩, List.mem_of_getElem? (i := 260) (by decide +kernel), List.mem_of_getElem? (i := 740) (by decide +kernel), List.mem_of_getElem? (i := 741) (by decide +kernel)⟩
theorem lw_p26 : lw_okq (⟨"IllLight$Course", "toldOfMan", "(II)I"⟩, 6) := ⟨⟨by decide +kernel, by decide +kernel⟩, List.mem_of_getElem? (i := 260) (by decide +kernel), List.mem_of_getElem? (i := 746) (by decide +kernel), List.mem_of_getElem? (i := 747) (by decide +kernel)⟩
theorem lw_p27 : lw_okq (⟨"IllLight$Sea", "afterHour", "(JII)J"⟩, 7) := ⟨⟨by decide +kernel, by decide +kernel⟩, List.mem_of_getElem? (i := 289) (by decide +kernel), List.mem_of_getElem? (i := 777) (by decide +kernel), List.mem_of_getElem? (i := 778) (by decide +kernel)⟩
theorem lw_p28 : lw_okq (⟨"IllLight", "fewestMen", "(LIllLight$Coast;IIZ)I"⟩, 7) := ⟨⟨by decide +kernel, by decide +kernel⟩, List.mem_of_getElem? (i := 20) (by decide +kernel), List.mem_of_getElem? (i := 803) (by decide +kernel), List.mem_of_getElem? (i := 804) (by decide +kernel)⟩
theorem lw_p29 : lw_okq (⟨"IllLight", "leastIll", "(LIllLight$Coast;II)I"⟩, 7) := ⟨⟨by decide +kernel, by decide +kernel⟩, List.mem_of_getElem? (i := 20) (by decide +kernel), List.mem_of_getElem? (i := 823) (by decide +kernel), List.mem_of_getElem? (i := 824) (by decide +kernel)⟩
theorem lw_p30 : lw_okq (⟨"IllLight", "leastThrown", "(LIllLight$Coast;II)I"⟩, 7) := ⟨⟨by decide +kernel, by decide +kernel⟩, List.mem_of_getElem? (i := 20) (by decide +kernel), List.mem_of_getElem? (i := 828) (by decide +kernel), List.mem_of_getElem? (i := 829) (by decide +kernel)⟩
theorem lw_p31 : lw_okq (⟨"IllLight", "hoursToLeave", "(LIllLight$Coast;II)I"⟩, 7) := ⟨⟨by decide +kernel, by decide +kernel⟩, List.mem_of_getElem? (i := 20) (by decide +kernel), List.mem_of_getElem? (i := 832) (by decide +kernel), List.mem_of_getElem? (i := 833) (by decide +kernel)⟩
def lw_privs_2 : List (MethodName × Nat) := [(⟨"IllLight", "nightAt", "(I)LIllLight$Night;"⟩, 7), (⟨"IllLight$Course", "begin", "(LIllLight$Coast;)V"⟩, 6), (⟨"IllLight$Course", "pass", "()Z"⟩, 6), (⟨"IllLight$Course", "beam", "()I"⟩, 6), (⟨"IllLight$Course", "isLost", "(I)Z"⟩, 6), (⟨"IllLight$Course", "whoseLight", "(I)I"⟩, 6), (⟨"IllLight$Course", "act", "(IIII)Z"⟩, 6), (⟨"IllLight$Course", "sail", "(II)Z"⟩, 6), (⟨"IllLight$Course", "throwOut", "(I)Z"⟩, 6), (⟨"IllLight$Course", "toldOfShip", "(II)I"⟩, 6), (⟨"IllLight$Course", "toldOfMan", "(II)I"⟩, 6), (⟨"IllLight$Sea", "afterHour", "(JII)J"⟩, 7), (⟨"IllLight", "fewestMen", "(LIllLight$Coast;IIZ)I"⟩, 7), (⟨"IllLight", "leastIll", "(LIllLight$Coast;II)I"⟩, 7), (⟨"IllLight", "leastThrown", "(LIllLight$Coast;II)I"⟩, 7), (⟨"IllLight", "hoursToLeave", "(LIllLight$Coast;II)I"⟩, 7)]
theorem lw_r2 : ∀ q ∈ lw_privs_2, lw_okq q := List.forall_mem_cons.mpr ⟨lw_p16, List.forall_mem_cons.mpr ⟨lw_p17, List.forall_mem_cons.mpr ⟨lw_p18, List.forall_mem_cons.mpr ⟨lw_p19, List.forall_mem_cons.mpr ⟨lw_p20, List.forall_mem_cons.mpr ⟨lw_p21, List.forall_mem_cons.mpr ⟨lw_p22, List.forall_mem_cons.mpr ⟨lw_p23, List.forall_mem_cons.mpr ⟨lw_p24, List.forall_mem_cons.mpr ⟨lw_p25, List.forall_mem_cons.mpr ⟨lw_p26, List.forall_mem_cons.mpr ⟨lw_p27, List.forall_mem_cons.mpr ⟨lw_p28, List.forall_mem_cons.mpr ⟨lw_p29, List.forall_mem_cons.mpr ⟨lw_p30, List.forall_mem_cons.mpr ⟨lw_p31, fun _ h => absurd h List.not_mem_nil⟩⟩⟩⟩⟩⟩⟩⟩⟩⟩⟩⟩⟩⟩⟩⟩
theorem lw_p32 : lw_okq (⟨"IllLight", "logAt", "(I)LIllLight$Log;"⟩, 7) := ⟨⟨by decide +kernel, by decide +kernel⟩, List.mem_of_getElem? (i := 20) (by decide +kernel), List.mem_of_getElem? (i := 894) (by decide +kernel), List.mem_of_getElem? (i := 895) (by decide +kernel)⟩
theorem lw_p33 : lw_okq (⟨"IllLight$Log", "toldOfOne", "(II)I"⟩, 7) := ⟨⟨by decide +kernel, by decide +kernel⟩, List.mem_of_getElem? (i := 140) (by decide +kernel), List.mem_of_getElem? (i := 902) (by decide +kernel), List.mem_of_getElem? (i := 903) (by decide +kernel)⟩
theorem lw_p34 : lw_okq (⟨"IllLight$Log", "sets", "()I"⟩, 7) := ⟨⟨by decide +kernel, by decide +kernel⟩, List.mem_of_getElem? (i := 140) (by decide +kernel), List.mem_of_getElem? (i := 918) (by decide +kernel), List.mem_of_getElem? (i := 919) (by decide +kernel)⟩
theorem lw_p35 : lw_okq (⟨"IllLight$Log", "allAgree", "(I)Z"⟩, 7) := ⟨⟨by decide +kernel, by decide +kernel⟩, List.mem_of_getElem? (i := 140) (by decide +kernel), List.mem_of_getElem? (i := 922) (by decide +kernel), List.mem_of_getElem? (i := 923) (by decide +kernel)⟩
theorem lw_p36 : lw_okq (⟨"IllLight$Log", "agrees", "(II)Z"⟩, 7) := ⟨⟨by decide +kernel, by decide +kernel⟩, List.mem_of_getElem? (i := 140) (by decide +kernel), List.mem_of_getElem? (i := 926) (by decide +kernel), List.mem_of_getElem? (i := 927) (by decide +kernel)⟩
theorem lw_p37 : lw_okq (⟨"IllLight$Log", "shines", "(II)Z"⟩, 7) := ⟨⟨by decide +kernel, by decide +kernel⟩, List.mem_of_getElem? (i := 140) (by decide +kernel), List.mem_of_getElem? (i := 930) (by decide +kernel), List.mem_of_getElem? (i := 931) (by decide +kernel)⟩
theorem lw_p38 : lw_okq (⟨"IllLight$Log", "shiningAt", "(I)J"⟩, 7) := ⟨⟨by decide +kernel, by decide +kernel⟩, List.mem_of_getElem? (i := 140) (by decide +kernel), List.mem_of_getElem? (i := 945) (by decide +kernel), List.mem_of_getElem? (i := 946) (by decide +kernel)⟩
theorem lw_p39 : lw_okq (⟨"IllLight$Log", "weight", "(I)J"⟩, 7) := ⟨⟨by decide +kernel, by decide +kernel⟩, List.mem_of_getElem? (i := 140) (by decide +kernel), List.mem_of_getElem? (i := 963) (by decide +kernel), List.mem_of_getElem? (i := 964) (by decide +kernel)⟩
theorem lw_p40 : lw_okq (⟨"IllLight$Course", "below", "(I)I"⟩, 6) := ⟨⟨by decide +kernel, by decide +kernel⟩, List.mem_of_getElem? (i := 260) (by decide +kernel), List.mem_of_getElem? (i := 975) (by decide +kernel), List.mem_of_getElem? (i := 976) (by decide +kernel)⟩
theorem lw_p41 : lw_okq (⟨"IllLightModel", "isOf", "(II)Z"⟩, 37) := ⟨⟨by decide +kernel, by decide +kernel⟩, List.mem_of_getElem? (i := 1078) (by decide +kernel), List.mem_of_getElem? (i := 1211) (by decide +kernel), List.mem_of_getElem? (i := 1212) (by decide +kernel)⟩
theorem lw_p42 : lw_okq (⟨"IllLightModel", "advance", "()V"⟩, 37) := ⟨⟨by decide +kernel, by decide +kernel⟩, List.mem_of_getElem? (i := 1078) (by decide +kernel), List.mem_of_getElem? (i := 1215) (by decide +kernel), List.mem_of_getElem? (i := 1216) (by decide +kernel)⟩
theorem lw_p43 : lw_okq (⟨"IllLightModel", "byteAt", "(I)I"⟩, 37) := ⟨⟨by decide +kernel, by decide +kernel⟩, List.mem_of_getElem? (i := 1078) (by decide +kernel), List.mem_of_getElem? (i := 1219) (by decide +kernel), List.mem_of_getElem? (i := 1220) (by decide +kernel)⟩
theorem lw_p44 : lw_okq (⟨"IllLightModel", "coastLine", "()V"⟩, 37) := ⟨⟨by decide +kernel, by decide +kernel⟩, List.mem_of_getElem? (i := 1078) (by decide +kernel), List.mem_of_getElem? (i := 1241) (by decide +kernel), List.mem_of_getElem? (i := 1242) (by decide +kernel)⟩
theorem lw_p45 : lw_okq (⟨"IllLightModel", "takes", "(II)I"⟩, 37) := ⟨⟨by decide +kernel, by decide +kernel⟩, List.mem_of_getElem? (i := 1078) (by decide +kernel), List.mem_of_getElem? (i := 1245) (by decide +kernel), List.mem_of_getElem? (i := 1246) (by decide +kernel)⟩
theorem lw_p46 : lw_okq (⟨"IllLightModel", "ends", "()V"⟩, 37) := ⟨⟨by decide +kernel, by decide +kernel⟩, List.mem_of_getElem? (i := 1078) (by decide +kernel), List.mem_of_getElem? (i := 1249) (by decide +kernel), List.mem_of_getElem? (i := 1250) (by decide +kernel)⟩
theorem lw_p47 : lw_okq (⟨"IllLightModel", "numbered", "(II)I"⟩, 37) := ⟨⟨by decide +kernel, by decide +kernel⟩, List.mem_of_getElem? (i := 1078) (by decide +kernel), List.mem_of_getElem? (i := 1253) (by decide +kernel), List.mem_of_getElem? (i := 1254) (by decide +kernel)⟩
def lw_privs_3 : List (MethodName × Nat) := [(⟨"IllLight", "logAt", "(I)LIllLight$Log;"⟩, 7), (⟨"IllLight$Log", "toldOfOne", "(II)I"⟩, 7), (⟨"IllLight$Log", "sets", "()I"⟩, 7), (⟨"IllLight$Log", "allAgree", "(I)Z"⟩, 7), (⟨"IllLight$Log", "agrees", "(II)Z"⟩, 7), (⟨"IllLight$Log", "shines", "(II)Z"⟩, 7), (⟨"IllLight$Log", "shiningAt", "(I)J"⟩, 7), (⟨"IllLight$Log", "weight", "(I)J"⟩, 7), (⟨"IllLight$Course", "below", "(I)I"⟩, 6), (⟨"IllLightModel", "isOf", "(II)Z"⟩, 37), (⟨"IllLightModel", "advance", "()V"⟩, 37), (⟨"IllLightModel", "byteAt", "(I)I"⟩, 37), (⟨"IllLightModel", "coastLine", "()V"⟩, 37), (⟨"IllLightModel", "takes", "(II)I"⟩, 37), (⟨"IllLightModel", "ends", "()V"⟩, 37), (⟨"IllLightModel", "numbered", "(II)I"⟩, 37)]
theorem lw_r3 : ∀ q ∈ lw_privs_3, lw_okq q := List.forall_mem_cons.mpr ⟨lw_p32, List.forall_mem_cons.mpr ⟨lw_p33, List.forall_mem_cons.mpr ⟨lw_p34, List.forall_mem_cons.mpr ⟨lw_p35, List.forall_mem_cons.mpr ⟨lw_p36, List.forall_mem_cons.mpr ⟨lw_p37, List.forall_mem_cons.mpr ⟨lw_p38, List.forall_mem_cons.mpr ⟨lw_p39, List.forall_mem_cons.mpr ⟨lw_p40, List.forall_mem_cons.mpr ⟨lw_p41, List.forall_mem_cons.mpr ⟨lw_p42, List.forall_mem_cons.mpr ⟨lw_p43, List.forall_mem_cons.mpr ⟨lw_p44, List.forall_mem_cons.mpr ⟨lw_p45, List.forall_mem_cons.mpr ⟨lw_p46, List.forall_mem_cons.mpr ⟨lw_p47, fun _ h => absurd h List.not_mem_nil⟩⟩⟩⟩⟩⟩⟩⟩⟩⟩⟩⟩⟩⟩⟩⟩
theorem lw_p48 : lw_okq (⟨"IllLightModel", "also", "(II)V"⟩, 37) := ⟨⟨by decide +kernel, by decide +kernel⟩, List.mem_of_getElem? (i := 1078) (by decide +kernel), List.mem_of_getElem? (i := 1257) (by decide +kernel), List.mem_of_getElem? (i := 1258) (by decide +kernel)⟩
theorem lw_p49 : lw_okq (⟨"IllLightModel", "cellTold", "()I"⟩, 37) := ⟨⟨by decide +kernel, by decide +kernel⟩, List.mem_of_getElem? (i := 1078) (by decide +kernel), List.mem_of_getElem? (i := 1261) (by decide +kernel), List.mem_of_getElem? (i := 1262) (by decide +kernel)⟩
theorem lw_p50 : lw_okq (⟨"IllLightModel", "guardLine", "(I)V"⟩, 37) := ⟨⟨by decide +kernel, by decide +kernel⟩, List.mem_of_getElem? (i := 1078) (by decide +kernel), List.mem_of_getElem? (i := 1265) (by decide +kernel), List.mem_of_getElem? (i := 1266) (by decide +kernel)⟩
theorem lw_p51 : lw_okq (⟨"IllLightModel", "shipLine", "(I)V"⟩, 37) := ⟨⟨by decide +kernel, by decide +kernel⟩, List.mem_of_getElem? (i := 1078) (by decide +kernel), List.mem_of_getElem? (i := 1269) (by decide +kernel), List.mem_of_getElem? (i := 1270) (by decide +kernel)⟩
theorem lw_p52 : lw_okq (⟨"IllLightModel", "manLine", "(II)V"⟩, 37) := ⟨⟨by decide +kernel, by decide +kernel⟩, List.mem_of_getElem? (i := 1078) (by decide +kernel), List.mem_of_getElem? (i := 1273) (by decide +kernel), List.mem_of_getElem? (i := 1274) (by decide +kernel)⟩
theorem lw_p53 : lw_okq (⟨"IllLightModel", "shipTold", "()I"⟩, 37) := ⟨⟨by decide +kernel, by decide +kernel⟩, List.mem_of_getElem? (i := 1078) (by decide +kernel), List.mem_of_getElem? (i := 1277) (by decide +kernel), List.mem_of_getElem? (i := 1278) (by decide +kernel)⟩
theorem lw_p54 : lw_okq (⟨"IllLightModel", "endsLine", "()V"⟩, 37) := ⟨⟨by decide +kernel, by decide +kernel⟩, List.mem_of_getElem? (i := 1078) (by decide +kernel), List.mem_of_getElem? (i := 1281) (by decide +kernel), List.mem_of_getElem? (i := 1282) (by decide +kernel)⟩
theorem lw_p55 : lw_okq (⟨"IllLightModel", "nightLine", "()V"⟩, 37) := ⟨⟨by decide +kernel, by decide +kernel⟩, List.mem_of_getElem? (i := 1078) (by decide +kernel), List.mem_of_getElem? (i := 1285) (by decide +kernel), List.mem_of_getElem? (i := 1286) (by decide +kernel)⟩
theorem lw_p56 : lw_okq (⟨"IllLightModel", "logLine", "()V"⟩, 37) := ⟨⟨by decide +kernel, by decide +kernel⟩, List.mem_of_getElem? (i := 1078) (by decide +kernel), List.mem_of_getElem? (i := 1289) (by decide +kernel), List.mem_of_getElem? (i := 1290) (by decide +kernel)⟩
theorem lw_p57 : lw_okq (⟨"IllLightModel", "logMan", "(I)V"⟩, 37) := ⟨⟨by decide +kernel, by decide +kernel⟩, List.mem_of_getElem? (i := 1078) (by decide +kernel), List.mem_of_getElem? (i := 1293) (by decide +kernel), List.mem_of_getElem? (i := 1294) (by decide +kernel)⟩
theorem lw_p58 : lw_okq (⟨"IllLightModel", "logFact", "(IZ)V"⟩, 37) := ⟨⟨by decide +kernel, by decide +kernel⟩, List.mem_of_getElem? (i := 1078) (by decide +kernel), List.mem_of_getElem? (i := 1297) (by decide +kernel), List.mem_of_getElem? (i := 1298) (by decide +kernel)⟩
theorem lw_p59 : lw_okq (⟨"IllLightModel", "settles", "(I)V"⟩, 37) := ⟨⟨by decide +kernel, by decide +kernel⟩, List.mem_of_getElem? (i := 1078) (by decide +kernel), List.mem_of_getElem? (i := 1307) (by decide +kernel), List.mem_of_getElem? (i := 1308) (by decide +kernel)⟩
theorem lw_p60 : lw_okq (⟨"IllLightModel", "settled", "(II)I"⟩, 37) := ⟨⟨by decide +kernel, by decide +kernel⟩, List.mem_of_getElem? (i := 1078) (by decide +kernel), List.mem_of_getElem? (i := 1311) (by decide +kernel), List.mem_of_getElem? (i := 1312) (by decide +kernel)⟩
theorem lw_p61 : lw_okq (⟨"IllLightModel", "isCoast", "(I)Z"⟩, 37) := ⟨⟨by decide +kernel, by decide +kernel⟩, List.mem_of_getElem? (i := 1078) (by decide +kernel), List.mem_of_getElem? (i := 1323) (by decide +kernel), List.mem_of_getElem? (i := 1324) (by decide +kernel)⟩
theorem lw_p62 : lw_okq (⟨"IllLightModel", "isShip", "(I)Z"⟩, 37) := ⟨⟨by decide +kernel, by decide +kernel⟩, List.mem_of_getElem? (i := 1078) (by decide +kernel), List.mem_of_getElem? (i := 1327) (by decide +kernel), List.mem_of_getElem? (i := 1328) (by decide +kernel)⟩
theorem lw_p63 : lw_okq (⟨"IllLightModel", "of", "(II)I"⟩, 37) := ⟨⟨by decide +kernel, by decide +kernel⟩, List.mem_of_getElem? (i := 1078) (by decide +kernel), List.mem_of_getElem? (i := 1331) (by decide +kernel), List.mem_of_getElem? (i := 1332) (by decide +kernel)⟩
def lw_privs_4 : List (MethodName × Nat) := [(⟨"IllLightModel", "also", "(II)V"⟩, 37), (⟨"IllLightModel", "cellTold", "()I"⟩, 37), (⟨"IllLightModel", "guardLine", "(I)V"⟩, 37), (⟨"IllLightModel", "shipLine", "(I)V"⟩, 37), (⟨"IllLightModel", "manLine", "(II)V"⟩, 37), (⟨"IllLightModel", "shipTold", "()I"⟩, 37), (⟨"IllLightModel", "endsLine", "()V"⟩, 37), (⟨"IllLightModel", "nightLine", "()V"⟩, 37), (⟨"IllLightModel", "logLine", "()V"⟩, 37), (⟨"IllLightModel", "logMan", "(I)V"⟩, 37), (⟨"IllLightModel", "logFact", "(IZ)V"⟩, 37), (⟨"IllLightModel", "settles", "(I)V"⟩, 37), (⟨"IllLightModel", "settled", "(II)I"⟩, 37), (⟨"IllLightModel", "isCoast", "(I)Z"⟩, 37), (⟨"IllLightModel", "isShip", "(I)Z"⟩, 37), (⟨"IllLightModel", "of", "(II)I"⟩, 37)]
theorem lw_r4 : ∀ q ∈ lw_privs_4, lw_okq q := List.forall_mem_cons.mpr ⟨lw_p48, List.forall_mem_cons.mpr ⟨lw_p49, List.forall_mem_cons.mpr ⟨lw_p50, List.forall_mem_cons.mpr ⟨lw_p51, List.forall_mem_cons.mpr ⟨lw_p52, List.forall_mem_cons.mpr ⟨lw_p53, List.forall_mem_cons.mpr ⟨lw_p54, List.forall_mem_cons.mpr ⟨lw_p55, List.forall_mem_cons.mpr ⟨lw_p56, List.forall_mem_cons.mpr ⟨lw_p57, List.forall_mem_cons.mpr ⟨lw_p58, List.forall_mem_cons.mpr ⟨lw_p59, List.forall_mem_cons.mpr ⟨lw_p60, List.forall_mem_cons.mpr ⟨lw_p61, List.forall_mem_cons.mpr ⟨lw_p62, List.forall_mem_cons.mpr ⟨lw_p63, fun _ h => absurd h List.not_mem_nil⟩⟩⟩⟩⟩⟩⟩⟩⟩⟩⟩⟩⟩⟩⟩⟩
theorem lw_p64 : lw_okq (⟨"IllLightModel", "asTold", "()V"⟩, 37) := ⟨⟨by decide +kernel, by decide +kernel⟩, List.mem_of_getElem? (i := 1078) (by decide +kernel), List.mem_of_getElem? (i := 1343) (by decide +kernel), List.mem_of_getElem? (i := 1344) (by decide +kernel)⟩
theorem lw_p65 : lw_okq (⟨"IllLightModel", "means", "(III)I"⟩, 37) := ⟨⟨by decide +kernel, by decide +kernel⟩, List.mem_of_getElem? (i := 1078) (by decide +kernel), List.mem_of_getElem? (i := 1347) (by decide +kernel), List.mem_of_getElem? (i := 1348) (by decide +kernel)⟩
theorem lw_p66 : lw_okq (⟨"IllLightModel", "meansAlone", "(II)I"⟩, 37) := ⟨⟨by decide +kernel, by decide +kernel⟩, List.mem_of_getElem? (i := 1078) (by decide +kernel), List.mem_of_getElem? (i := 1351) (by decide +kernel), List.mem_of_getElem? (i := 1352) (by decide +kernel)⟩
theorem lw_p67 : lw_okq (⟨"IllLightModel", "harmOf", "(II)I"⟩, 37) := ⟨⟨by decide +kernel, by decide +kernel⟩, List.mem_of_getElem? (i := 1078) (by decide +kernel), List.mem_of_getElem? (i := 1355) (by decide +kernel), List.mem_of_getElem? (i := 1356) (by decide +kernel)⟩
theorem lw_p68 : lw_okq (⟨"IllLightModel", "lightOf", "(II)I"⟩, 37) := ⟨⟨by decide +kernel, by decide +kernel⟩, List.mem_of_getElem? (i := 1078) (by decide +kernel), List.mem_of_getElem? (i := 1359) (by decide +kernel), List.mem_of_getElem? (i := 1360) (by decide +kernel)⟩
theorem lw_p69 : lw_okq (⟨"IllLightModel", "isLit", "(II)Z"⟩, 37) := ⟨⟨by decide +kernel, by decide +kernel⟩, List.mem_of_getElem? (i := 1078) (by decide +kernel), List.mem_of_getElem? (i := 1363) (by decide +kernel), List.mem_of_getElem? (i := 1364) (by decide +kernel)⟩
theorem lw_p70 : lw_okq (⟨"IllLightModel", "isNight", "(I)Z"⟩, 37) := ⟨⟨by decide +kernel, by decide +kernel⟩, List.mem_of_getElem? (i := 1078) (by decide +kernel), List.mem_of_getElem? (i := 1371) (by decide +kernel), List.mem_of_getElem? (i := 1372) (by decide +kernel)⟩
theorem lw_p71 : lw_okq (⟨"IllLightModel", "runs", "(I)V"⟩, 37) := ⟨⟨by decide +kernel, by decide +kernel⟩, List.mem_of_getElem? (i := 1078) (by decide +kernel), List.mem_of_getElem? (i := 1379) (by decide +kernel), List.mem_of_getElem? (i := 1380) (by decide +kernel)⟩
theorem lw_p72 : lw_okq (⟨"IllLightModel", "begins", "()V"⟩, 37) := ⟨⟨by decide +kernel, by decide +kernel⟩, List.mem_of_getElem? (i := 1078) (by decide +kernel), List.mem_of_getElem? (i := 1383) (by decide +kernel), List.mem_of_getElem? (i := 1384) (by decide +kernel)⟩
theorem lw_p73 : lw_okq (⟨"IllLightModel", "does", "(IIII)Z"⟩, 37) := ⟨⟨by decide +kernel, by decide +kernel⟩, List.mem_of_getElem? (i := 1078) (by decide +kernel), List.mem_of_getElem? (i := 1387) (by decide +kernel), List.mem_of_getElem? (i := 1388) (by decide +kernel)⟩
theorem lw_p74 : lw_okq (⟨"IllLightModel", "passesHour", "()V"⟩, 37) := ⟨⟨by decide +kernel, by decide +kernel⟩, List.mem_of_getElem? (i := 1078) (by decide +kernel), List.mem_of_getElem? (i := 1391) (by decide +kernel), List.mem_of_getElem? (i := 1392) (by decide +kernel)⟩
theorem lw_p75 : lw_okq (⟨"IllLightModel", "isLost", "(I)Z"⟩, 37) := ⟨⟨by decide +kernel, by decide +kernel⟩, List.mem_of_getElem? (i := 1078) (by decide +kernel), List.mem_of_getElem? (i := 1395) (by decide +kernel), List.mem_of_getElem? (i := 1396) (by decide +kernel)⟩
theorem lw_p76 : lw_okq (⟨"IllLightModel", "isBeamed", "(I)Z"⟩, 37) := ⟨⟨by decide +kernel, by decide +kernel⟩, List.mem_of_getElem? (i := 1078) (by decide +kernel), List.mem_of_getElem? (i := 1399) (by decide +kernel), List.mem_of_getElem? (i := 1400) (by decide +kernel)⟩
theorem lw_p77 : lw_okq (⟨"IllLightModel", "shadeOf", "(I)I"⟩, 37) := ⟨⟨by decide +kernel, by decide +kernel⟩, List.mem_of_getElem? (i := 1078) (by decide +kernel), List.mem_of_getElem? (i := 1403) (by decide +kernel), List.mem_of_getElem? (i := 1404) (by decide +kernel)⟩
theorem lw_p78 : lw_okq (⟨"IllLightModel", "isBetween", "(II)Z"⟩, 37) := ⟨⟨by decide +kernel, by decide +kernel⟩, List.mem_of_getElem? (i := 1078) (by decide +kernel), List.mem_of_getElem? (i := 1407) (by decide +kernel), List.mem_of_getElem? (i := 1408) (by decide +kernel)⟩
theorem lw_p79 : lw_okq (⟨"IllLightModel", "apart", "(II)I"⟩, 37) := ⟨⟨by decide +kernel, by decide +kernel⟩, List.mem_of_getElem? (i := 1078) (by decide +kernel), List.mem_of_getElem? (i := 1414) (by decide +kernel), List.mem_of_getElem? (i := 1415) (by decide +kernel)⟩
def lw_privs_5 : List (MethodName × Nat) := [(⟨"IllLightModel", "asTold", "()V"⟩, 37), (⟨"IllLightModel", "means", "(III)I"⟩, 37), (⟨"IllLightModel", "meansAlone", "(II)I"⟩, 37), (⟨"IllLightModel", "harmOf", "(II)I"⟩, 37), (⟨"IllLightModel", "lightOf", "(II)I"⟩, 37), (⟨"IllLightModel", "isLit", "(II)Z"⟩, 37), (⟨"IllLightModel", "isNight", "(I)Z"⟩, 37), (⟨"IllLightModel", "runs", "(I)V"⟩, 37), (⟨"IllLightModel", "begins", "()V"⟩, 37), (⟨"IllLightModel", "does", "(IIII)Z"⟩, 37), (⟨"IllLightModel", "passesHour", "()V"⟩, 37), (⟨"IllLightModel", "isLost", "(I)Z"⟩, 37), (⟨"IllLightModel", "isBeamed", "(I)Z"⟩, 37), (⟨"IllLightModel", "shadeOf", "(I)I"⟩, 37), (⟨"IllLightModel", "isBetween", "(II)Z"⟩, 37), (⟨"IllLightModel", "apart", "(II)I"⟩, 37)]
theorem lw_r5 : ∀ q ∈ lw_privs_5, lw_okq q := List.forall_mem_cons.mpr ⟨lw_p64, List.forall_mem_cons.mpr ⟨lw_p65, List.forall_mem_cons.mpr ⟨lw_p66, List.forall_mem_cons.mpr ⟨lw_p67, List.forall_mem_cons.mpr ⟨lw_p68, List.forall_mem_cons.mpr ⟨lw_p69, List.forall_mem_cons.mpr ⟨lw_p70, List.forall_mem_cons.mpr ⟨lw_p71, List.forall_mem_cons.mpr ⟨lw_p72, List.forall_mem_cons.mpr ⟨lw_p73, List.forall_mem_cons.mpr ⟨lw_p74, List.forall_mem_cons.mpr ⟨lw_p75, List.forall_mem_cons.mpr ⟨lw_p76, List.forall_mem_cons.mpr ⟨lw_p77, List.forall_mem_cons.mpr ⟨lw_p78, List.forall_mem_cons.mpr ⟨lw_p79, fun _ h => absurd h List.not_mem_nil⟩⟩⟩⟩⟩⟩⟩⟩⟩⟩⟩⟩⟩⟩⟩⟩
theorem lw_p80 : lw_okq (⟨"IllLightModel", "isNearer", "(II)Z"⟩, 37) := ⟨⟨by decide +kernel, by decide +kernel⟩, List.mem_of_getElem? (i := 1078) (by decide +kernel), List.mem_of_getElem? (i := 1421) (by decide +kernel), List.mem_of_getElem? (i := 1422) (by decide +kernel)⟩
theorem lw_p81 : lw_okq (⟨"IllLightModel", "isRock", "(I)Z"⟩, 37) := ⟨⟨by decide +kernel, by decide +kernel⟩, List.mem_of_getElem? (i := 1078) (by decide +kernel), List.mem_of_getElem? (i := 1425) (by decide +kernel), List.mem_of_getElem? (i := 1426) (by decide +kernel)⟩
theorem lw_p82 : lw_okq (⟨"IllLightModel", "isGuarded", "(I)Z"⟩, 37) := ⟨⟨by decide +kernel, by decide +kernel⟩, List.mem_of_getElem? (i := 1078) (by decide +kernel), List.mem_of_getElem? (i := 1429) (by decide +kernel), List.mem_of_getElem? (i := 1430) (by decide +kernel)⟩
theorem lw_p83 : lw_okq (⟨"IllLightModel", "stepTo", "(II)I"⟩, 37) := ⟨⟨by decide +kernel, by decide +kernel⟩, List.mem_of_getElem? (i := 1078) (by decide +kernel), List.mem_of_getElem? (i := 1433) (by decide +kernel), List.mem_of_getElem? (i := 1434) (by decide +kernel)⟩
theorem lw_p84 : lw_okq (⟨"IllLightModel", "nowOf", "(I)I"⟩, 37) := ⟨⟨by decide +kernel, by decide +kernel⟩, List.mem_of_getElem? (i := 1078) (by decide +kernel), List.mem_of_getElem? (i := 1441) (by decide +kernel), List.mem_of_getElem? (i := 1442) (by decide +kernel)⟩
theorem lw_p85 : lw_okq (⟨"IllLightModel", "isCell", "(I)Z"⟩, 37) := ⟨⟨by decide +kernel, by decide +kernel⟩, List.mem_of_getElem? (i := 1078) (by decide +kernel), List.mem_of_getElem? (i := 1449) (by decide +kernel), List.mem_of_getElem? (i := 1450) (by decide +kernel)⟩
theorem lw_p86 : lw_okq (⟨"IllLightModel", "goes", "(IIII)V"⟩, 37) := ⟨⟨by decide +kernel, by decide +kernel⟩, List.mem_of_getElem? (i := 1078) (by decide +kernel), List.mem_of_getElem? (i := 1453) (by decide +kernel), List.mem_of_getElem? (i := 1454) (by decide +kernel)⟩
theorem lw_p87 : lw_okq (⟨"IllLightModel", "isSafe", "(IIII)Z"⟩, 37) := ⟨⟨by decide +kernel, by decide +kernel⟩, List.mem_of_getElem? (i := 1078) (by decide +kernel), List.mem_of_getElem? (i := 1457) (by decide +kernel), List.mem_of_getElem? (i := 1458) (by decide +kernel)⟩
theorem lw_p88 : lw_okq (⟨"IllLightModel", "takenOf", "(III)I"⟩, 37) := ⟨⟨by decide +kernel, by decide +kernel⟩, List.mem_of_getElem? (i := 1078) (by decide +kernel), List.mem_of_getElem? (i := 1469) (by decide +kernel), List.mem_of_getElem? (i := 1470) (by decide +kernel)⟩
theorem lw_p89 : lw_okq (⟨"IllLightModel", "comes", "(IIII)Z"⟩, 37) := ⟨⟨by decide +kernel, by decide +kernel⟩, List.mem_of_getElem? (i := 1078) (by decide +kernel), List.mem_of_getElem? (i := 1476) (by decide +kernel), List.mem_of_getElem? (i := 1477) (by decide +kernel)⟩
theorem lw_p90 : lw_okq (⟨"IllLightModel", "illOf", "(III)I"⟩, 37) := ⟨⟨by decide +kernel, by decide +kernel⟩, List.mem_of_getElem? (i := 1078) (by decide +kernel), List.mem_of_getElem? (i := 1480) (by decide +kernel), List.mem_of_getElem? (i := 1481) (by decide +kernel)⟩
theorem lw_p91 : lw_okq (⟨"IllLightModel", "thrownOf", "(III)I"⟩, 37) := ⟨⟨by decide +kernel, by decide +kernel⟩, List.mem_of_getElem? (i := 1078) (by decide +kernel), List.mem_of_getElem? (i := 1484) (by decide +kernel), List.mem_of_getElem? (i := 1485) (by decide +kernel)⟩
theorem lw_p92 : lw_okq (⟨"IllLightModel", "leaveOf", "(III)I"⟩, 37) := ⟨⟨by decide +kernel, by decide +kernel⟩, List.mem_of_getElem? (i := 1078) (by decide +kernel), List.mem_of_getElem? (i := 1488) (by decide +kernel), List.mem_of_getElem? (i := 1489) (by decide +kernel)⟩
theorem lw_p93 : lw_okq (⟨"IllLightModel", "lulledOf", "(III)I"⟩, 37) := ⟨⟨by decide +kernel, by decide +kernel⟩, List.mem_of_getElem? (i := 1078) (by decide +kernel), List.mem_of_getElem? (i := 1492) (by decide +kernel), List.mem_of_getElem? (i := 1493) (by decide +kernel)⟩
theorem lw_p94 : lw_okq (⟨"IllLightModel", "safestOf", "(I)I"⟩, 37) := ⟨⟨by decide +kernel, by decide +kernel⟩, List.mem_of_getElem? (i := 1078) (by decide +kernel), List.mem_of_getElem? (i := 1500) (by decide +kernel), List.mem_of_getElem? (i := 1501) (by decide +kernel)⟩
theorem lw_p95 : lw_okq (⟨"IllLightModel", "openOf", "(I)I"⟩, 37) := ⟨⟨by decide +kernel, by decide +kernel⟩, List.mem_of_getElem? (i := 1078) (by decide +kernel), List.mem_of_getElem? (i := 1504) (by decide +kernel), List.mem_of_getElem? (i := 1505) (by decide +kernel)⟩
def lw_privs_6 : List (MethodName × Nat) := [(⟨"IllLightModel", "isNearer", "(II)Z"⟩, 37), (⟨"IllLightModel", "isRock", "(I)Z"⟩, 37), (⟨"IllLightModel", "isGuarded", "(I)Z"⟩, 37), (⟨"IllLightModel", "stepTo", "(II)I"⟩, 37), (⟨"IllLightModel", "nowOf", "(I)I"⟩, 37), (⟨"IllLightModel", "isCell", "(I)Z"⟩, 37), (⟨"IllLightModel", "goes", "(IIII)V"⟩, 37), (⟨"IllLightModel", "isSafe", "(IIII)Z"⟩, 37), (⟨"IllLightModel", "takenOf", "(III)I"⟩, 37), (⟨"IllLightModel", "comes", "(IIII)Z"⟩, 37), (⟨"IllLightModel", "illOf", "(III)I"⟩, 37), (⟨"IllLightModel", "thrownOf", "(III)I"⟩, 37), (⟨"IllLightModel", "leaveOf", "(III)I"⟩, 37), (⟨"IllLightModel", "lulledOf", "(III)I"⟩, 37), (⟨"IllLightModel", "safestOf", "(I)I"⟩, 37), (⟨"IllLightModel", "openOf", "(I)I"⟩, 37)]
theorem lw_r6 : ∀ q ∈ lw_privs_6, lw_okq q := List.forall_mem_cons.mpr ⟨lw_p80, List.forall_mem_cons.mpr ⟨lw_p81, List.forall_mem_cons.mpr ⟨lw_p82, List.forall_mem_cons.mpr ⟨lw_p83, List.forall_mem_cons.mpr ⟨lw_p84, List.forall_mem_cons.mpr ⟨lw_p85, List.forall_mem_cons.mpr ⟨lw_p86, List.forall_mem_cons.mpr ⟨lw_p87, List.forall_mem_cons.mpr ⟨lw_p88, List.forall_mem_cons.mpr ⟨lw_p89, List.forall_mem_cons.mpr ⟨lw_p90, List.forall_mem_cons.mpr ⟨lw_p91, List.forall_mem_cons.mpr ⟨lw_p92, List.forall_mem_cons.mpr ⟨lw_p93, List.forall_mem_cons.mpr ⟨lw_p94, List.forall_mem_cons.mpr ⟨lw_p95, fun _ h => absurd h List.not_mem_nil⟩⟩⟩⟩⟩⟩⟩⟩⟩⟩⟩⟩⟩⟩⟩⟩
theorem lw_p96 : lw_okq (⟨"IllLightModel", "wins", "(III)Z"⟩, 37) := ⟨⟨by decide +kernel, by decide +kernel⟩, List.mem_of_getElem? (i := 1078) (by decide +kernel), List.mem_of_getElem? (i := 1508) (by decide +kernel), List.mem_of_getElem? (i := 1509) (by decide +kernel)⟩
theorem lw_p97 : lw_okq (⟨"IllLightModel", "isRest", "(III)Z"⟩, 37) := ⟨⟨by decide +kernel, by decide +kernel⟩, List.mem_of_getElem? (i := 1078) (by decide +kernel), List.mem_of_getElem? (i := 1512) (by decide +kernel), List.mem_of_getElem? (i := 1513) (by decide +kernel)⟩
theorem lw_p98 : lw_okq (⟨"IllLightModel", "isLog", "(I)Z"⟩, 37) := ⟨⟨by decide +kernel, by decide +kernel⟩, List.mem_of_getElem? (i := 1078) (by decide +kernel), List.mem_of_getElem? (i := 1532) (by decide +kernel), List.mem_of_getElem? (i := 1533) (by decide +kernel)⟩
theorem lw_p99 : lw_okq (⟨"IllLightModel", "countOf", "(I)I"⟩, 37) := ⟨⟨by decide +kernel, by decide +kernel⟩, List.mem_of_getElem? (i := 1078) (by decide +kernel), List.mem_of_getElem? (i := 1540) (by decide +kernel), List.mem_of_getElem? (i := 1541) (by decide +kernel)⟩
theorem lw_p100 : lw_okq (⟨"IllLightModel", "wrongBy", "(I)I"⟩, 37) := ⟨⟨by decide +kernel, by decide +kernel⟩, List.mem_of_getElem? (i := 1078) (by decide +kernel), List.mem_of_getElem? (i := 1544) (by decide +kernel), List.mem_of_getElem? (i := 1545) (by decide +kernel)⟩
theorem lw_p101 : lw_okq (⟨"IllLightModel", "isLitBy", "(II)Z"⟩, 37) := ⟨⟨by decide +kernel, by decide +kernel⟩, List.mem_of_getElem? (i := 1078) (by decide +kernel), List.mem_of_getElem? (i := 1548) (by decide +kernel), List.mem_of_getElem? (i := 1549) (by decide +kernel)⟩
theorem lw_p102 : lw_okq (⟨"IllLightModel", "askOf", "()I"⟩, 37) := ⟨⟨by decide +kernel, by decide +kernel⟩, List.mem_of_getElem? (i := 1078) (by decide +kernel), List.mem_of_getElem? (i := 1552) (by decide +kernel), List.mem_of_getElem? (i := 1553) (by decide +kernel)⟩
theorem lw_p103 : lw_okq (⟨"IllLightModel", "weightOf", "(I)J"⟩, 37) := ⟨⟨by decide +kernel, by decide +kernel⟩, List.mem_of_getElem? (i := 1078) (by decide +kernel), List.mem_of_getElem? (i := 1560) (by decide +kernel), List.mem_of_getElem? (i := 1561) (by decide +kernel)⟩
theorem lw_p104 : lw_okq (⟨"IllLightModel", "darkest", "(I)I"⟩, 37) := ⟨⟨by decide +kernel, by decide +kernel⟩, List.mem_of_getElem? (i := 1078) (by decide +kernel), List.mem_of_getElem? (i := 1568) (by decide +kernel), List.mem_of_getElem? (i := 1569) (by decide +kernel)⟩
theorem lw_p105 : lw_okq (⟨"IllLightModel", "passes", "(III)V"⟩, 37) := ⟨⟨by decide +kernel, by decide +kernel⟩, List.mem_of_getElem? (i := 1078) (by decide +kernel), List.mem_of_getElem? (i := 1584) (by decide +kernel), List.mem_of_getElem? (i := 1585) (by decide +kernel)⟩
theorem lw_p106 : lw_okq (⟨"IllLightModel", "crossed", "(I)I"⟩, 37) := ⟨⟨by decide +kernel, by decide +kernel⟩, List.mem_of_getElem? (i := 1078) (by decide +kernel), List.mem_of_getElem? (i := 1592) (by decide +kernel), List.mem_of_getElem? (i := 1593) (by decide +kernel)⟩
theorem lw_p107 : lw_okq (⟨"IllLightModel", "seenBy", "(III)I"⟩, 37) := ⟨⟨by decide +kernel, by decide +kernel⟩, List.mem_of_getElem? (i := 1078) (by decide +kernel), List.mem_of_getElem? (i := 1596) (by decide +kernel), List.mem_of_getElem? (i := 1597) (by decide +kernel)⟩
theorem lw_p108 : lw_okq (⟨"IllLightModel", "weighs", "(ZJ)V"⟩, 37) := ⟨⟨by decide +kernel, by decide +kernel⟩, List.mem_of_getElem? (i := 1078) (by decide +kernel), List.mem_of_getElem? (i := 1608) (by decide +kernel), List.mem_of_getElem? (i := 1609) (by decide +kernel)⟩
theorem lw_p109 : lw_okq (⟨"IllLightModel", "fraction", "(Z)J"⟩, 37) := ⟨⟨by decide +kernel, by decide +kernel⟩, List.mem_of_getElem? (i := 1078) (by decide +kernel), List.mem_of_getElem? (i := 1612) (by decide +kernel), List.mem_of_getElem? (i := 1613) (by decide +kernel)⟩
theorem lw_p110 : lw_okq (⟨"IllLightModel", "draws", "()V"⟩, 37) := ⟨⟨by decide +kernel, by decide +kernel⟩, List.mem_of_getElem? (i := 1078) (by decide +kernel), List.mem_of_getElem? (i := 1624) (by decide +kernel), List.mem_of_getElem? (i := 1625) (by decide +kernel)⟩
theorem lw_p111 : lw_okq (⟨"IllLightModel", "below", "(I)I"⟩, 37) := ⟨⟨by decide +kernel, by decide +kernel⟩, List.mem_of_getElem? (i := 1078) (by decide +kernel), List.mem_of_getElem? (i := 1628) (by decide +kernel), List.mem_of_getElem? (i := 1629) (by decide +kernel)⟩
def lw_privs_7 : List (MethodName × Nat) := [(⟨"IllLightModel", "wins", "(III)Z"⟩, 37), (⟨"IllLightModel", "isRest", "(III)Z"⟩, 37), (⟨"IllLightModel", "isLog", "(I)Z"⟩, 37), (⟨"IllLightModel", "countOf", "(I)I"⟩, 37), (⟨"IllLightModel", "wrongBy", "(I)I"⟩, 37), (⟨"IllLightModel", "isLitBy", "(II)Z"⟩, 37), (⟨"IllLightModel", "askOf", "()I"⟩, 37), (⟨"IllLightModel", "weightOf", "(I)J"⟩, 37), (⟨"IllLightModel", "darkest", "(I)I"⟩, 37), (⟨"IllLightModel", "passes", "(III)V"⟩, 37), (⟨"IllLightModel", "crossed", "(I)I"⟩, 37), (⟨"IllLightModel", "seenBy", "(III)I"⟩, 37), (⟨"IllLightModel", "weighs", "(ZJ)V"⟩, 37), (⟨"IllLightModel", "fraction", "(Z)J"⟩, 37), (⟨"IllLightModel", "draws", "()V"⟩, 37), (⟨"IllLightModel", "below", "(I)I"⟩, 37)]
theorem lw_r7 : ∀ q ∈ lw_privs_7, lw_okq q := List.forall_mem_cons.mpr ⟨lw_p96, List.forall_mem_cons.mpr ⟨lw_p97, List.forall_mem_cons.mpr ⟨lw_p98, List.forall_mem_cons.mpr ⟨lw_p99, List.forall_mem_cons.mpr ⟨lw_p100, List.forall_mem_cons.mpr ⟨lw_p101, List.forall_mem_cons.mpr ⟨lw_p102, List.forall_mem_cons.mpr ⟨lw_p103, List.forall_mem_cons.mpr ⟨lw_p104, List.forall_mem_cons.mpr ⟨lw_p105, List.forall_mem_cons.mpr ⟨lw_p106, List.forall_mem_cons.mpr ⟨lw_p107, List.forall_mem_cons.mpr ⟨lw_p108, List.forall_mem_cons.mpr ⟨lw_p109, List.forall_mem_cons.mpr ⟨lw_p110, List.forall_mem_cons.mpr ⟨lw_p111, fun _ h => absurd h List.not_mem_nil⟩⟩⟩⟩⟩⟩⟩⟩⟩⟩⟩⟩⟩⟩⟩⟩
def lw_privs : List (MethodName × Nat) := lw_privs_1 ++ (lw_privs_2 ++ (lw_privs_3 ++ (lw_privs_4 ++ (lw_privs_5 ++ (lw_privs_6 ++ (lw_privs_7))))))
def lw_tbl : List Cond := k2_sels lw_privs ++ tables_1
theorem lw_privs_ok : ∀ q ∈ lw_privs, lw_okq q := by
  show ∀ q ∈ lw_privs_1 ++ (lw_privs_2 ++ (lw_privs_3 ++ (lw_privs_4 ++ (lw_privs_5 ++ (lw_privs_6 ++ (lw_privs_7)))))), lw_okq q
  exact List.forall_mem_append.mpr ⟨lw_r1, List.forall_mem_append.mpr ⟨lw_r2, List.forall_mem_append.mpr ⟨lw_r3, List.forall_mem_append.mpr ⟨lw_r4, List.forall_mem_append.mpr ⟨lw_r5, List.forall_mem_append.mpr ⟨lw_r6, lw_r7⟩⟩⟩⟩⟩⟩
end
section
def RX0 : String := "IllLight$Coast"
def TX0 : u_T := fun k => match k with
  | 0 => ("IllLight$Coast", "wide", "I", false)
  | 1 => ("IllLight$Coast", "high", "I", false)
  | 2 => ("IllLight$Coast", "lamp", "I", false)
  | 3 => ("IllLight$Coast", "limit", "I", false)
  | 4 => ("IllLight$Coast", "rocks", "J", false)
  | 5 => ("IllLight$Coast", "guards", "I", false)
  | 6 => ("IllLight$Coast", "guardSpot", "[I", true)
  | 7 => ("IllLight$Coast", "guardRange", "[I", true)
  | 8 => ("IllLight$Coast", "ships", "I", false)
  | 9 => ("IllLight$Coast", "spot", "[I", true)
  | 10 => ("IllLight$Coast", "cargo", "[I", true)
  | 11 => ("IllLight$Coast", "children", "[I", true)
  | 12 => ("IllLight$Coast", "men", "[I", true)
  | 13 => ("IllLight$Coast", "kind", "[I", true)
  | 14 => ("IllLight$Coast", "first", "[I", true)
  | _ => ("IllLight$Coast", "second", "[I", true)
def tyX0 : Nat → FieldType := fun k => match k with
  | 0 => .int
  | 1 => .int
  | 2 => .int
  | 3 => .int
  | 4 => .long
  | 5 => .int
  | 6 => .array .int
  | 7 => .array .int
  | 8 => .int
  | 9 => .array .int
  | 10 => .array .int
  | 11 => .array .int
  | 12 => .array .int
  | 13 => .array .int
  | 14 => .array .int
  | _ => .array .int
abbrev wsX00 : List Cond := u_ws RX0 TX0 16
theorem nmX0 : ∀ a, a < 16 → ∀ b, b < 16 → a ≠ b → (TX0 a).2.1 ≠ (TX0 b).2.1 := by decide +kernel
theorem tyX0_ok : ∀ k, k < 16 → parseFieldDescriptor (TX0 k).2.2.1 = some (tyX0 k) := by decide +kernel
def RX1 : String := "IllLight$Course"
def TX1 : u_T := fun k => match k with
  | 0 => ("IllLight$Course", "coast", "LIllLight$Coast;", true)
  | 1 => ("IllLight$Course", "hour", "I", false)
  | 2 => ("IllLight$Course", "gone", "I", false)
  | 3 => ("IllLight$Course", "struck", "I", false)
  | 4 => ("IllLight$Course", "caught", "I", false)
  | _ => ("IllLight$Course", "seed", "I", false)
def tyX1 : Nat → FieldType := fun k => match k with
  | 0 => .object "IllLight$Coast"
  | 1 => .int
  | 2 => .int
  | 3 => .int
  | 4 => .int
  | _ => .int
abbrev wsX10 : List Cond := u_ws RX1 TX1 6
theorem nmX1 : ∀ a, a < 6 → ∀ b, b < 6 → a ≠ b → (TX1 a).2.1 ≠ (TX1 b).2.1 := by decide +kernel
theorem tyX1_ok : ∀ k, k < 6 → parseFieldDescriptor (TX1 k).2.2.1 = some (tyX1 k) := by decide +kernel
def RX2 : String := "IllLight$Log"
def TX2 : u_T := fun k => match k with
  | 0 => ("IllLight$Log", "men", "I", false)
  | 1 => ("IllLight$Log", "odds", "[I", true)
  | 2 => ("IllLight$Log", "limit", "I", false)
  | 3 => ("IllLight$Log", "errors", "I", false)
  | 4 => ("IllLight$Log", "facts", "I", false)
  | 5 => ("IllLight$Log", "lit", "[I", true)
  | _ => ("IllLight$Log", "hour", "[I", true)
def tyX2 : Nat → FieldType := fun k => match k with
  | 0 => .int
  | 1 => .array .int
  | 2 => .int
  | 3 => .int
  | 4 => .int
  | 5 => .array .int
  | _ => .array .int
abbrev wsX20 : List Cond := u_ws RX2 TX2 7
theorem nmX2 : ∀ a, a < 7 → ∀ b, b < 7 → a ≠ b → (TX2 a).2.1 ≠ (TX2 b).2.1 := by decide +kernel
theorem tyX2_ok : ∀ k, k < 7 → parseFieldDescriptor (TX2 k).2.2.1 = some (tyX2 k) := by decide +kernel
def RX3 : String := "IllLight$Night"
def TX3 : u_T := fun k => match k with
  | 0 => ("IllLight$Night", "deeds", "I", false)
  | 1 => ("IllLight$Night", "kind", "[I", true)
  | _ => ("IllLight$Night", "numbers", "[I", true)
def tyX3 : Nat → FieldType := fun k => match k with
  | 0 => .int
  | 1 => .array .int
  | _ => .array .int
abbrev wsX30 : List Cond := u_ws RX3 TX3 3
theorem nmX3 : ∀ a, a < 3 → ∀ b, b < 3 → a ≠ b → (TX3 a).2.1 ≠ (TX3 b).2.1 := by decide +kernel
theorem tyX3_ok : ∀ k, k < 3 → parseFieldDescriptor (TX3 k).2.2.1 = some (tyX3 k) := by decide +kernel
def RX4 : String := "IllLight$Reader"
def TX4 : u_T := fun k => match k with
  | 0 => ("IllLight$Reader", "coast", "LIllLight$Coast;", true)
  | 1 => ("IllLight$Reader", "night", "LIllLight$Night;", true)
  | 2 => ("IllLight$Reader", "log", "LIllLight$Log;", true)
  | 3 => ("IllLight$Reader", "fault", "I", false)
  | 4 => ("IllLight$Reader", "place", "I", false)
  | 5 => ("IllLight$Reader", "numbers", "[I", true)
  | 6 => ("IllLight$Reader", "token", "I", false)
  | 7 => ("IllLight$Reader", "from", "I", false)
  | 8 => ("IllLight$Reader", "to", "I", false)
  | 9 => ("IllLight$Reader", "farColumn", "I", false)
  | 10 => ("IllLight$Reader", "farRow", "I", false)
  | _ => ("IllLight$Reader", "farShip", "I", false)
def tyX4 : Nat → FieldType := fun k => match k with
  | 0 => .object "IllLight$Coast"
  | 1 => .object "IllLight$Night"
  | 2 => .object "IllLight$Log"
  | 3 => .int
  | 4 => .int
  | 5 => .array .int
  | 6 => .int
  | 7 => .int
  | 8 => .int
  | 9 => .int
  | 10 => .int
  | _ => .int
abbrev wsX40 : List Cond := u_ws RX4 TX4 12
theorem nmX4 : ∀ a, a < 12 → ∀ b, b < 12 → a ≠ b → (TX4 a).2.1 ≠ (TX4 b).2.1 := by decide +kernel
theorem tyX4_ok : ∀ k, k < 12 → parseFieldDescriptor (TX4 k).2.2.1 = some (tyX4 k) := by decide +kernel
def RX6 : String := "IllLight$Sea"
def TX6 : u_T := fun k => match k with
  | 0 => ("IllLight$Sea", "board", "J", false)
  | 1 => ("IllLight$Sea", "safeIfLit", "J", false)
  | 2 => ("IllLight$Sea", "safeIfDark", "J", false)
  | 3 => ("IllLight$Sea", "from", "J", false)
  | 4 => ("IllLight$Sea", "goal", "J", false)
  | 5 => ("IllLight$Sea", "cells", "I", false)
  | _ => ("IllLight$Sea", "seen", "[J", true)
def tyX6 : Nat → FieldType := fun k => match k with
  | 0 => .long
  | 1 => .long
  | 2 => .long
  | 3 => .long
  | 4 => .long
  | 5 => .int
  | _ => .array .long
abbrev wsX60 : List Cond := u_ws RX6 TX6 7
theorem nmX6 : ∀ a, a < 7 → ∀ b, b < 7 → a ≠ b → (TX6 a).2.1 ≠ (TX6 b).2.1 := by decide +kernel
theorem tyX6_ok : ∀ k, k < 7 → parseFieldDescriptor (TX6 k).2.2.1 = some (tyX6 k) := by decide +kernel
def RX7 : String := "IllLight$Told"
def TX7 : u_T := fun k => match k with
  | 0 => ("IllLight$Told", "tape", "[I", true)
  | 1 => ("IllLight$Told", "length", "I", false)
  | 2 => ("IllLight$Told", "fault", "I", false)
  | 3 => ("IllLight$Told", "place", "I", false)
  | 4 => ("IllLight$Told", "held", "[I", true)
  | 5 => ("IllLight$Told", "coasts", "[LIllLight$Coast;", true)
  | 6 => ("IllLight$Told", "nights", "[LIllLight$Night;", true)
  | _ => ("IllLight$Told", "logs", "[LIllLight$Log;", true)
def tyX7 : Nat → FieldType := fun k => match k with
  | 0 => .array .int
  | 1 => .int
  | 2 => .int
  | 3 => .int
  | 4 => .array .int
  | 5 => .array (.object "IllLight$Coast")
  | 6 => .array (.object "IllLight$Night")
  | _ => .array (.object "IllLight$Log")
abbrev wsX70 : List Cond := u_ws RX7 TX7 8
theorem nmX7 : ∀ a, a < 8 → ∀ b, b < 8 → a ≠ b → (TX7 a).2.1 ≠ (TX7 b).2.1 := by decide +kernel
theorem tyX7_ok : ∀ k, k < 8 → parseFieldDescriptor (TX7 k).2.2.1 = some (tyX7 k) := by decide +kernel
def RX8 : String := "IllLight"
def TX8 : u_T := fun k => match k with
  | 0 => ("IllLight", "now", "LIllLight$Told;", true)
  | 1 => ("IllLight", "images", "[LIllLight$Told;", true)
  | 2 => ("IllLight", "kept", "[Z", true)
  | 3 => ("IllLight", "reader", "LIllLight$Reader;", true)
  | 4 => ("IllLight", "course", "LIllLight$Course;", true)
  | 5 => ("IllLight", "trial", "LIllLight$Coast;", true)
  | _ => ("IllLight", "sea", "LIllLight$Sea;", true)
def tyX8 : Nat → FieldType := fun k => match k with
  | 0 => .object "IllLight$Told"
  | 1 => .array (.object "IllLight$Told")
  | 2 => .array .boolean
  | 3 => .object "IllLight$Reader"
  | 4 => .object "IllLight$Course"
  | 5 => .object "IllLight$Coast"
  | _ => .object "IllLight$Sea"
abbrev wsX80 : List Cond := u_ws RX8 TX8 7
theorem nmX8 : ∀ a, a < 7 → ∀ b, b < 7 → a ≠ b → (TX8 a).2.1 ≠ (TX8 b).2.1 := by decide +kernel
theorem tyX8_ok : ∀ k, k < 7 → parseFieldDescriptor (TX8 k).2.2.1 = some (tyX8 k) := by decide +kernel
def RX9 : String := "IllLightModel"
def TX9 : u_T := fun k => match k with
  | 0 => ("IllLightModel", "all", "[I", true)
  | 1 => ("IllLightModel", "has", "[Z", true)
  | 2 => ("IllLightModel", "size", "I", false)
  | 3 => ("IllLightModel", "next", "I", false)
  | 4 => ("IllLightModel", "where", "I", false)
  | 5 => ("IllLightModel", "token", "I", false)
  | 6 => ("IllLightModel", "number", "I", false)
  | 7 => ("IllLightModel", "word", "I", false)
  | 8 => ("IllLightModel", "wrong", "Z", false)
  | 9 => ("IllLightModel", "right", "I", false)
  | 10 => ("IllLightModel", "low", "I", false)
  | 11 => ("IllLightModel", "farShip", "I", false)
  | 12 => ("IllLightModel", "read", "[I", true)
  | 13 => ("IllLightModel", "c0", "I", false)
  | 14 => ("IllLightModel", "wide", "I", false)
  | 15 => ("IllLightModel", "high", "I", false)
  | 16 => ("IllLightModel", "ships", "I", false)
  | 17 => ("IllLightModel", "men", "[I", true)
  | 18 => ("IllLightModel", "cargo", "[I", true)
  | 19 => ("IllLightModel", "aboard", "I", false)
  | 20 => ("IllLightModel", "n0", "I", false)
  | 21 => ("IllLightModel", "cells", "[I", true)
  | 22 => ("IllLightModel", "gone", "I", false)
  | 23 => ("IllLightModel", "struck", "I", false)
  | 24 => ("IllLightModel", "caught", "I", false)
  | 25 => ("IllLightModel", "hour", "I", false)
  | 26 => ("IllLightModel", "done", "I", false)
  | 27 => ("IllLightModel", "first", "[I", true)
  | 28 => ("IllLightModel", "now", "[Z", true)
  | 29 => ("IllLightModel", "then", "[Z", true)
  | 30 => ("IllLightModel", "l0", "I", false)
  | 31 => ("IllLightModel", "fit", "I", false)
  | 32 => ("IllLightModel", "been", "[Z", true)
  | 33 => ("IllLightModel", "beenThen", "[Z", true)
  | 34 => ("IllLightModel", "some", "J", false)
  | 35 => ("IllLightModel", "whole", "J", false)
  | _ => ("IllLightModel", "x0", "I", false)
def tyX9 : Nat → FieldType := fun k => match k with
  | 0 => .array .int
  | 1 => .array .boolean
  | 2 => .int
  | 3 => .int
  | 4 => .int
  | 5 => .int
  | 6 => .int
  | 7 => .int
  | 8 => .boolean
  | 9 => .int
  | 10 => .int
  | 11 => .int
  | 12 => .array .int
  | 13 => .int
  | 14 => .int
  | 15 => .int
  | 16 => .int
  | 17 => .array .int
  | 18 => .array .int
  | 19 => .int
  | 20 => .int
  | 21 => .array .int
  | 22 => .int
  | 23 => .int
  | 24 => .int
  | 25 => .int
  | 26 => .int
  | 27 => .array .int
  | 28 => .array .boolean
  | 29 => .array .boolean
  | 30 => .int
  | 31 => .int
  | 32 => .array .boolean
  | 33 => .array .boolean
  | 34 => .long
  | 35 => .long
  | _ => .int
abbrev wsX90 : List Cond := u_ws RX9 TX9 37
theorem nmX9 : ∀ a, a < 37 → ∀ b, b < 37 → a ≠ b → (TX9 a).2.1 ≠ (TX9 b).2.1 := by decide +kernel
theorem tyX9_ok : ∀ k, k < 37 → parseFieldDescriptor (TX9 k).2.2.1 = some (tyX9 k) := by decide +kernel
abbrev vwCl : List vw_C := [(RX0, TX0, 16), (RX1, TX1, 6), (RX2, TX2, 7), (RX3, TX3, 3), (RX4, TX4, 12), (RX6, TX6, 7), (RX7, TX7, 8), (RX8, TX8, 7), (RX9, TX9, 37)]
end
section
abbrev PI : Type := Nat × Nat × Nat × Nat × Nat × Nat × Nat × List (Nat × Instr × Nat × Option (List Bool))
/-- IllLight$Coast.clear()V -/
def cd_0 : List (Nat × Instr × Nat × Option (List Bool)) := [(0, .aload_n 0, 1, none), (1, .bipush 6, 2, none), (3, .putfield 9, 3, none), (6, .aload_n 0, 1, none), (7, .bipush 6, 2, none), (9, .putfield 15, 3, none), (12, .aload_n 0, 1, none), (13, .iconst 0, 1, none), (14, .putfield 49, 3, none), (17, .aload_n 0, 1, none), (18, .iconst 1, 1, none), (19, .putfield 18, 3, none), (22, .aload_n 0, 1, none), (23, .lconst 0, 1, none), (24, .putfield 52, 3, none), (27, .aload_n 0, 1, none), (28, .iconst 0, 1, none), (29, .putfield 56, 3, none), (32, .aload_n 0, 1, none), (33, .iconst 0, 1, none), (34, .putfield 59, 3, none), (37, .return_, 1, none)]
def mi_0 : PI := (0, 1, 0, 1, 1, 0, 0, cd_0)
/-- IllLight$Coast.copyFrom(LIllLight$Coast;)V -/
def cd_1 : List (Nat × Instr × Nat × Option (List Bool)) := [(0, .aload_n 0, 1, none), (1, .aload_n 1, 1, none), (2, .getfield 9, 3, none), (5, .putfield 9, 3, none), (8, .aload_n 0, 1, none), (9, .aload_n 1, 1, none), (10, .getfield 15, 3, none), (13, .putfield 15, 3, none), (16, .aload_n 0, 1, none), (17, .aload_n 1, 1, none), (18, .getfield 49, 3, none), (21, .putfield 49, 3, none), (24, .aload_n 0, 1, none), (25, .aload_n 1, 1, none), (26, .getfield 18, 3, none), (29, .putfield 18, 3, none), (32, .aload_n 0, 1, none), (33, .aload_n 1, 1, none), (34, .getfield 52, 3, none), (37, .putfield 52, 3, none), (40, .aload_n 0, 1, none), (41, .aload_n 1, 1, none), (42, .getfield 56, 3, none), (45, .putfield 56, 3, none), (48, .aload_n 0, 1, none), (49, .aload_n 1, 1, none), (50, .getfield 59, 3, none), (53, .putfield 59, 3, none), (56, .aload_n 1, 1, none), (57, .getfield 21, 3, none), (60, .iconst 0, 1, none), (61, .aload_n 0, 1, none), (62, .getfield 21, 3, none), (65, .iconst 0, 1, none), (66, .iconst 4, 1, none), (67, .invokestatic 62, 3, none), (70, .aload_n 1, 1, none), (71, .getfield 25, 3, none), (74, .iconst 0, 1, none), (75, .aload_n 0, 1, none), (76, .getfield 25, 3, none), (79, .iconst 0, 1, none), (80, .iconst 4, 1, none), (81, .invokestatic 62, 3, none), (84, .aload_n 1, 1, none), (85, .getfield 28, 3, none), (88, .iconst 0, 1, none), (89, .aload_n 0, 1, none), (90, .getfield 28, 3, none), (93, .iconst 0, 1, none), (94, .iconst 4, 1, none), (95, .invokestatic 62, 3, none), (98, .aload_n 1, 1, none), (99, .getfield 31, 3, none), (102, .iconst 0, 1, none), (103, .aload_n 0, 1, none), (104, .getfield 31, 3, none), (107, .iconst 0, 1, none), (108, .iconst 4, 1, none), (109, .invokestatic 62, 3, none), (112, .aload_n 1, 1, none), (113, .getfield 34, 3, none), (116, .iconst 0, 1, none), (117, .aload_n 0, 1, none), (118, .getfield 34, 3, none), (121, .iconst 0, 1, none), (122, .iconst 4, 1, none), (123, .invokestatic 62, 3, none), (126, .aload_n 1, 1, none), (127, .getfield 37, 3, none), (130, .iconst 0, 1, none), (131, .aload_n 0, 1, none), (132, .getfield 37, 3, none), (135, .iconst 0, 1, none), (136, .iconst 4, 1, none), (137, .invokestatic 62, 3, none), (140, .aload_n 1, 1, none), (141, .getfield 40, 3, none), (144, .iconst 0, 1, none), (145, .aload_n 0, 1, none), (146, .getfield 40, 3, none), (149, .iconst 0, 1, none), (150, .bipush 16, 2, none), (152, .invokestatic 62, 3, none), (155, .aload_n 1, 1, none), (156, .getfield 43, 3, none), (159, .iconst 0, 1, none), (160, .aload_n 0, 1, none), (161, .getfield 43, 3, none), (164, .iconst 0, 1, none), (165, .bipush 16, 2, none), (167, .invokestatic 62, 3, none), (170, .aload_n 1, 1, none), (171, .getfield 46, 3, none), (174, .iconst 0, 1, none), (175, .aload_n 0, 1, none), (176, .getfield 46, 3, none), (179, .iconst 0, 1, none), (180, .bipush 16, 2, none), (182, .invokestatic 62, 3, none), (185, .return_, 1, none)]
def mi_1 : PI := (0, 2, 0, 2, 1, 1, 40, cd_1)
/-- IllLight$Coast.addGuard(II)V -/
def cd_2 : List (Nat × Instr × Nat × Option (List Bool)) := [(0, .aload_n 0, 1, none), (1, .getfield 56, 3, none), (4, .iconst 4, 1, none), (5, .if_icmp .ge 33, 3, none), (8, .aload_n 0, 1, none), (9, .getfield 21, 3, none), (12, .aload_n 0, 1, none), (13, .getfield 56, 3, none), (16, .iload_n 1, 1, none), (17, .iastore, 1, none), (18, .aload_n 0, 1, none), (19, .getfield 25, 3, none), (22, .aload_n 0, 1, none), (23, .getfield 56, 3, none), (26, .iload_n 2, 1, none), (27, .iastore, 1, none), (28, .aload_n 0, 1, none), (29, .dup, 1, none), (30, .getfield 56, 3, none), (33, .iconst 1, 1, none), (34, .iadd, 1, none), (35, .putfield 56, 3, none), (38, .return_, 1, some [false, false, false])]
def mi_2 : PI := (0, 3, 0, 3, 1, 0, 0, cd_2)
/-- IllLight$Coast.addShip(III)V -/
def cd_3 : List (Nat × Instr × Nat × Option (List Bool)) := [(0, .aload_n 0, 1, none), (1, .getfield 59, 3, none), (4, .iconst 4, 1, none), (5, .if_icmp .ge 53, 3, none), (8, .aload_n 0, 1, none), (9, .getfield 28, 3, none), (12, .aload_n 0, 1, none), (13, .getfield 59, 3, none), (16, .iload_n 1, 1, none), (17, .iastore, 1, none), (18, .aload_n 0, 1, none), (19, .getfield 31, 3, none), (22, .aload_n 0, 1, none), (23, .getfield 59, 3, none), (26, .iload_n 2, 1, none), (27, .iastore, 1, none), (28, .aload_n 0, 1, none), (29, .getfield 34, 3, none), (32, .aload_n 0, 1, none), (33, .getfield 59, 3, none), (36, .iload_n 3, 1, none), (37, .iastore, 1, none), (38, .aload_n 0, 1, none), (39, .getfield 37, 3, none), (42, .aload_n 0, 1, none), (43, .getfield 59, 3, none), (46, .iconst 0, 1, none), (47, .iastore, 1, none), (48, .aload_n 0, 1, none), (49, .dup, 1, none), (50, .getfield 59, 3, none), (53, .iconst 1, 1, none), (54, .iadd, 1, none), (55, .putfield 59, 3, none), (58, .return_, 1, some [false, false, false, false])]
def mi_3 : PI := (0, 4, 0, 4, 1, 0, 0, cd_3)
/-- IllLight$Coast.addMan(III)V -/
def cd_4 : List (Nat × Instr × Nat × Option (List Bool)) := [(0, .aload_n 0, 1, none), (1, .getfield 59, 3, none), (4, .iconst 1, 1, none), (5, .isub, 1, none), (6, .istore 4, 2, none), (8, .aload_n 0, 1, none), (9, .iload 4, 2, none), (11, .invokevirtual 68, 3, none), (14, .ifCond .eq 63, 3, none), (17, .aload_n 0, 1, none), (18, .getfield 37, 3, none), (21, .iload 4, 2, none), (23, .iaload, 1, none), (24, .iconst 4, 1, none), (25, .if_icmp .ge 52, 3, none), (28, .iconst 4, 1, none), (29, .iload 4, 2, none), (31, .imul, 1, none), (32, .aload_n 0, 1, none), (33, .getfield 37, 3, none), (36, .iload 4, 2, none), (38, .iaload, 1, none), (39, .iadd, 1, none), (40, .istore 5, 2, none), (42, .aload_n 0, 1, none), (43, .getfield 40, 3, none), (46, .iload 5, 2, none), (48, .iload_n 1, 1, none), (49, .iastore, 1, none), (50, .aload_n 0, 1, none), (51, .getfield 43, 3, none), (54, .iload 5, 2, none), (56, .iload_n 2, 1, none), (57, .iastore, 1, none), (58, .aload_n 0, 1, none), (59, .getfield 46, 3, none), (62, .iload 5, 2, none), (64, .iload_n 3, 1, none), (65, .iastore, 1, none), (66, .aload_n 0, 1, none), (67, .getfield 37, 3, none), (70, .iload 4, 2, none), (72, .dup2, 1, none), (73, .iaload, 1, none), (74, .iconst 1, 1, none), (75, .iadd, 1, none), (76, .iastore, 1, none), (77, .return_, 1, some [false, false, false, false, false, false])]
def mi_4 : PI := (0, 6, 0, 4, 1, 1, 21, cd_4)
/-- IllLight$Coast.hasShip(I)Z -/
def cd_5 : List (Nat × Instr × Nat × Option (List Bool)) := [(0, .iload_n 1, 1, none), (1, .ifCond .lt 15, 3, none), (4, .iload_n 1, 1, none), (5, .aload_n 0, 1, none), (6, .getfield 59, 3, none), (9, .if_icmp .ge 7, 3, none), (12, .iconst 1, 1, none), (13, .goto 4, 3, none), (16, .iconst 0, 1, some [false, false]), (17, .ireturn, 1, some [false, false])]
def mi_5 : PI := (0, 2, 2, 2, 1, 0, 0, cd_5)
/-- IllLight$Coast.hasMan(II)Z -/
def cd_6 : List (Nat × Instr × Nat × Option (List Bool)) := [(0, .iload_n 1, 1, none), (1, .ifCond .lt 29, 3, none), (4, .iload_n 1, 1, none), (5, .aload_n 0, 1, none), (6, .getfield 59, 3, none), (9, .if_icmp .ge 21, 3, none), (12, .iload_n 2, 1, none), (13, .ifCond .lt 17, 3, none), (16, .iload_n 2, 1, none), (17, .aload_n 0, 1, none), (18, .getfield 37, 3, none), (21, .iload_n 1, 1, none), (22, .iaload, 1, none), (23, .if_icmp .ge 7, 3, none), (26, .iconst 1, 1, none), (27, .goto 4, 3, none), (30, .iconst 0, 1, some [false, false, false]), (31, .ireturn, 1, some [false, false, false])]
def mi_6 : PI := (0, 3, 2, 3, 1, 0, 0, cd_6)
/-- IllLight$Coast.cells()I -/
def cd_7 : List (Nat × Instr × Nat × Option (List Bool)) := [(0, .aload_n 0, 1, none), (1, .getfield 9, 3, none), (4, .aload_n 0, 1, none), (5, .getfield 15, 3, none), (8, .imul, 1, none), (9, .ireturn, 1, none)]
def mi_7 : PI := (0, 1, 1, 1, 1, 0, 0, cd_7)
/-- IllLight$Coast.spotOf(I)I -/
def cd_8 : List (Nat × Instr × Nat × Option (List Bool)) := [(0, .aload_n 0, 1, none), (1, .getfield 9, 3, none), (4, .iconst 1, 1, none), (5, .if_icmp .lt 15, 3, none), (8, .iload_n 1, 1, none), (9, .ifCond .lt 11, 3, none), (12, .iload_n 1, 1, none), (13, .aload_n 0, 1, none), (14, .invokevirtual 72, 3, none), (17, .if_icmp .lt 5, 3, none), (20, .iconst (-1), 1, some [false, false]), (21, .ireturn, 1, none), (22, .iload_n 1, 1, some [true, true]), (23, .aload_n 0, 1, none), (24, .getfield 9, 3, none), (27, .idiv, 1, none), (28, .bipush 8, 2, none), (30, .imul, 1, none), (31, .iload_n 1, 1, none), (32, .aload_n 0, 1, none), (33, .getfield 9, 3, none), (36, .irem, 1, none), (37, .iadd, 1, none), (38, .ireturn, 1, none)]
def mi_8 : PI := (0, 2, 1, 2, 1, 1, 20, cd_8)
/-- IllLight$Coast.cellOf(I)I -/
def cd_9 : List (Nat × Instr × Nat × Option (List Bool)) := [(0, .iload_n 1, 1, none), (1, .ifCond .ge 7, 3, none), (4, .iconst (-1), 1, none), (5, .goto 16, 3, none), (8, .iload_n 1, 1, some [true, true]), (9, .iconst 3, 1, none), (10, .ishr, 1, none), (11, .aload_n 0, 1, none), (12, .getfield 9, 3, none), (15, .imul, 1, none), (16, .iload_n 1, 1, none), (17, .bipush 7, 2, none), (19, .iand, 1, none), (20, .iadd, 1, none), (21, .ireturn, 1, some [false, false])]
def mi_9 : PI := (0, 2, 1, 2, 1, 0, 0, cd_9)
/-- IllLight$Coast.board()J -/
def cd_10 : List (Nat × Instr × Nat × Option (List Bool)) := [(0, .lconst 1, 1, none), (1, .aload_n 0, 1, none), (2, .getfield 9, 3, none), (5, .lshl, 1, none), (6, .lconst 1, 1, none), (7, .lsub, 1, none), (8, .lstore_n 1, 1, none), (9, .lconst 0, 1, none), (10, .lstore_n 3, 1, none), (11, .iconst 0, 1, none), (12, .istore 5, 2, none), (14, .iload 5, 2, some [true, true, false, true, false, true]), (16, .aload_n 0, 1, none), (17, .getfield 15, 3, none), (20, .if_icmp .ge 19, 3, none), (23, .lload_n 3, 1, none), (24, .lload_n 1, 1, none), (25, .bipush 8, 2, none), (27, .iload 5, 2, none), (29, .imul, 1, none), (30, .lshl, 1, none), (31, .lor, 1, none), (32, .lstore_n 3, 1, none), (33, .iinc 5 1, 3, none), (36, .goto (-22), 3, none), (39, .lload_n 3, 1, some [false, false, false, true, false, false]), (40, .lreturn, 1, none)]
def mi_10 : PI := (0, 6, 3, 1, 1, 0, 0, cd_10)
/-- IllLight$Coast.guarded()J -/
def cd_11 : List (Nat × Instr × Nat × Option (List Bool)) := [(0, .aload_n 0, 1, none), (1, .invokevirtual 76, 3, none), (4, .lstore_n 1, 1, none), (5, .lconst 0, 1, none), (6, .lstore_n 3, 1, none), (7, .iconst 0, 1, none), (8, .istore 5, 2, none), (10, .iload 5, 2, some [true, true, false, true, false, true]), (12, .aload_n 0, 1, none), (13, .getfield 56, 3, none), (16, .if_icmp .ge 30, 3, none), (19, .lload_n 3, 1, none), (20, .aload_n 0, 1, none), (21, .getfield 21, 3, none), (24, .iload 5, 2, none), (26, .iaload, 1, none), (27, .aload_n 0, 1, none), (28, .getfield 25, 3, none), (31, .iload 5, 2, none), (33, .iaload, 1, none), (34, .lload_n 1, 1, none), (35, .invokestatic 80, 3, none), (38, .lor, 1, none), (39, .lstore_n 3, 1, none), (40, .iinc 5 1, 3, none), (43, .goto (-33), 3, none), (46, .lload_n 3, 1, some [false, false, false, true, false, false]), (47, .lreturn, 1, none)]
def mi_11 : PI := (0, 6, 3, 1, 1, 2, 51, cd_11)
/-- IllLight$Coast.told(I)I -/
def cd_12 : List (Nat × Instr × Nat × Option (List Bool)) := [(0, .iload_n 1, 1, none), (1, .tableswitch 73 0 5 #[39, 44, 49, 58, 63, 68], 39, none), (40, .aload_n 0, 1, some [true, false]), (41, .getfield 9, 3, none), (44, .ireturn, 1, none), (45, .aload_n 0, 1, some [true, false]), (46, .getfield 15, 3, none), (49, .ireturn, 1, none), (50, .aload_n 0, 1, some [true, false]), (51, .aload_n 0, 1, none), (52, .getfield 49, 3, none), (55, .invokevirtual 86, 3, none), (58, .ireturn, 1, none), (59, .aload_n 0, 1, some [true, false]), (60, .getfield 18, 3, none), (63, .ireturn, 1, none), (64, .aload_n 0, 1, some [true, false]), (65, .getfield 56, 3, none), (68, .ireturn, 1, none), (69, .aload_n 0, 1, some [true, false]), (70, .getfield 59, 3, none), (73, .ireturn, 1, none), (74, .iload_n 1, 1, some [true, true]), (75, .bipush 10, 2, none), (77, .if_icmp .ge 5, 3, none), (80, .iconst (-1), 1, none), (81, .ireturn, 1, none), (82, .iload_n 1, 1, some [true, true]), (83, .bipush 100, 2, none), (85, .if_icmp .ge 18, 3, none), (88, .aload_n 0, 1, none), (89, .iload_n 1, 1, none), (90, .bipush 10, 2, none), (92, .idiv, 1, none), (93, .iload_n 1, 1, none), (94, .bipush 10, 2, none), (96, .irem, 1, none), (97, .invokevirtual 90, 3, none), (100, .goto 11, 3, none), (103, .aload_n 0, 1, some [true, true]), (104, .iload_n 1, 1, none), (105, .bipush 100, 2, none), (107, .isub, 1, none), (108, .invokevirtual 94, 3, none), (111, .ireturn, 1, some [false, false])]
def mi_12 : PI := (0, 2, 1, 2, 1, 3, 63, cd_12)
/-- IllLight$Coast.toldOfOne(II)I -/
def cd_13 : List (Nat × Instr × Nat × Option (List Bool)) := [(0, .iload_n 1, 1, none), (1, .iconst 1, 1, none), (2, .if_icmp .eq 8, 3, none), (5, .iload_n 1, 1, none), (6, .iconst 2, 1, none), (7, .if_icmp .ne 38, 3, none), (10, .iload_n 2, 1, some [true, true, true]), (11, .aload_n 0, 1, none), (12, .getfield 56, 3, none), (15, .if_icmp .lt 5, 3, none), (18, .iconst (-1), 1, none), (19, .ireturn, 1, none), (20, .iload_n 1, 1, some [true, true, true]), (21, .iconst 1, 1, none), (22, .if_icmp .ne 16, 3, none), (25, .aload_n 0, 1, none), (26, .aload_n 0, 1, none), (27, .getfield 21, 3, none), (30, .iload_n 2, 1, none), (31, .iaload, 1, none), (32, .invokevirtual 86, 3, none), (35, .goto 9, 3, none), (38, .aload_n 0, 1, some [true, false, true]), (39, .getfield 25, 3, none), (42, .iload_n 2, 1, none), (43, .iaload, 1, none), (44, .ireturn, 1, some [false, false, false]), (45, .aload_n 0, 1, some [true, true, true]), (46, .iload_n 2, 1, none), (47, .invokevirtual 68, 3, none), (50, .ifCond .ne 5, 3, none), (53, .iconst (-1), 1, none), (54, .ireturn, 1, none), (55, .iload_n 1, 1, some [true, true, true]), (56, .tableswitch 64 3 6 #[32, 43, 50, 57], 32, none), (88, .aload_n 0, 1, some [true, false, true]), (89, .aload_n 0, 1, none), (90, .getfield 28, 3, none), (93, .iload_n 2, 1, none), (94, .iaload, 1, none), (95, .invokevirtual 86, 3, none), (98, .ireturn, 1, none), (99, .aload_n 0, 1, some [true, false, true]), (100, .getfield 31, 3, none), (103, .iload_n 2, 1, none), (104, .iaload, 1, none), (105, .ireturn, 1, none), (106, .aload_n 0, 1, some [true, false, true]), (107, .getfield 34, 3, none), (110, .iload_n 2, 1, none), (111, .iaload, 1, none), (112, .ireturn, 1, none), (113, .aload_n 0, 1, some [true, false, true]), (114, .getfield 37, 3, none), (117, .iload_n 2, 1, none), (118, .iaload, 1, none), (119, .ireturn, 1, none), (120, .iconst (-1), 1, some [false, false, false]), (121, .ireturn, 1, none)]
def mi_13 : PI := (0, 3, 1, 3, 1, 1, 21, cd_13)
/-- IllLight$Coast.toldOfRock(I)I -/
def cd_14 : List (Nat × Instr × Nat × Option (List Bool)) := [(0, .aload_n 0, 1, none), (1, .iload_n 1, 1, none), (2, .invokevirtual 97, 3, none), (5, .istore_n 2, 1, none), (6, .iload_n 2, 1, none), (7, .iconst (-1), 1, none), (8, .if_icmp .ne 5, 3, none), (11, .iconst (-1), 1, none), (12, .ireturn, 1, none), (13, .aload_n 0, 1, some [true, false, true]), (14, .getfield 52, 3, none), (17, .iload_n 2, 1, none), (18, .lushr, 1, none), (19, .lconst 1, 1, none), (20, .land, 1, none), (21, .lconst 0, 1, none), (22, .lcmp, 1, none), (23, .ifCond .eq 7, 3, none), (26, .iconst 1, 1, none), (27, .goto 4, 3, none), (30, .iconst 0, 1, some [false, false, false]), (31, .ireturn, 1, some [false, false, false])]
def mi_14 : PI := (0, 3, 1, 2, 1, 2, 41, cd_14)
/-- IllLight$Coast.meant(III)I -/
def cd_15 : List (Nat × Instr × Nat × Option (List Bool)) := [(0, .iload_n 1, 1, none), (1, .ifCond .lt 25, 3, none), (4, .iload_n 1, 1, none), (5, .aload_n 0, 1, none), (6, .getfield 59, 3, none), (9, .if_icmp .ge 17, 3, none), (12, .iload_n 2, 1, none), (13, .ifCond .lt 13, 3, none), (16, .iload_n 2, 1, none), (17, .aload_n 0, 1, none), (18, .getfield 37, 3, none), (21, .iload_n 1, 1, none), (22, .iaload, 1, none), (23, .if_icmp .lt 5, 3, none), (26, .iconst 0, 1, some [false, false, false, false, false, false]), (27, .ireturn, 1, none), (28, .iconst 4, 1, some [true, true, true, true, false, false]), (29, .iload_n 1, 1, none), (30, .imul, 1, none), (31, .istore 4, 2, none), (33, .aload_n 0, 1, none), (34, .getfield 40, 3, none), (37, .iload 4, 2, none), (39, .iload_n 2, 1, none), (40, .iadd, 1, none), (41, .iaload, 1, none), (42, .iconst 1, 1, none), (43, .if_icmp .ne 8, 3, none), (46, .iload 4, 2, none), (48, .goto 7, 3, none), (51, .iload 4, 2, some [true, false, true, true, true, false]), (53, .iload_n 2, 1, none), (54, .iadd, 1, none), (55, .istore 5, 2, some [true, false, false, true, false, false]), (57, .aload_n 0, 1, none), (58, .getfield 40, 3, none), (61, .iload 5, 2, none), (63, .iaload, 1, none), (64, .tableswitch 130 0 5 #[40, 130, 48, 71, 130, 89], 40, none), (104, .aload_n 0, 1, some [true, false, false, false, false, true]), (105, .getfield 43, 3, none), (108, .iload 5, 2, none), (110, .iaload, 1, none), (111, .ireturn, 1, none), (112, .iload_n 3, 1, some [true, false, false, true, false, true]), (113, .aload_n 0, 1, none), (114, .getfield 46, 3, none), (117, .iload 5, 2, none), (119, .iaload, 1, none), (120, .if_icmp .ge 13, 3, none), (123, .aload_n 0, 1, none), (124, .getfield 43, 3, none), (127, .iload 5, 2, none), (129, .iaload, 1, none), (130, .goto 4, 3, none), (133, .iconst 0, 1, some [false, false, false, false, false, false]), (134, .ireturn, 1, some [false, false, false, false, false, false]), (135, .iload_n 3, 1, some [true, false, false, true, false, true]), (136, .iconst 2, 1, none), (137, .irem, 1, none), (138, .ifCond .ne 13, 3, none), (141, .aload_n 0, 1, none), (142, .getfield 43, 3, none), (145, .iload 5, 2, none), (147, .iaload, 1, none), (148, .goto 4, 3, none), (151, .iconst 0, 1, some [false, false, false, false, false, false]), (152, .ireturn, 1, some [false, false, false, false, false, false]), (153, .aload_n 0, 1, some [true, false, false, false, false, true]), (154, .getfield 43, 3, none), (157, .iload 5, 2, none), (159, .iaload, 1, none), (160, .ifCond .lt 32, 3, none), (163, .aload_n 0, 1, none), (164, .getfield 43, 3, none), (167, .iload 5, 2, none), (169, .iaload, 1, none), (170, .aload_n 0, 1, none), (171, .getfield 59, 3, none), (174, .if_icmp .ge 18, 3, none), (177, .aload_n 0, 1, none), (178, .getfield 31, 3, none), (181, .aload_n 0, 1, none), (182, .getfield 43, 3, none), (185, .iload 5, 2, none), (187, .iaload, 1, none), (188, .iaload, 1, none), (189, .goto 4, 3, none), (192, .iconst 0, 1, some [false, false, false, false, false, false]), (193, .ireturn, 1, some [false, false, false, false, false, false]), (194, .iconst 0, 1, some [false, false, false, false, false, false]), (195, .ireturn, 1, none)]
def mi_15 : PI := (0, 6, 1, 4, 1, 0, 0, cd_15)
/-- IllLight$Coast.harm(II)I -/
def cd_16 : List (Nat × Instr × Nat × Option (List Bool)) := [(0, .aload_n 0, 1, none), (1, .iload_n 1, 1, none), (2, .invokevirtual 68, 3, none), (5, .ifCond .ne 5, 3, none), (8, .iconst 0, 1, none), (9, .ireturn, 1, none), (10, .aload_n 0, 1, some [true, true, true, false, false]), (11, .getfield 31, 3, none), (14, .iload_n 1, 1, none), (15, .iaload, 1, none), (16, .iconst 2, 1, none), (17, .aload_n 0, 1, none), (18, .getfield 34, 3, none), (21, .iload_n 1, 1, none), (22, .iaload, 1, none), (23, .imul, 1, none), (24, .isub, 1, none), (25, .istore_n 3, 1, none), (26, .iconst 0, 1, none), (27, .istore 4, 2, none), (29, .iload 4, 2, some [true, true, true, true, true]), (31, .aload_n 0, 1, none), (32, .getfield 37, 3, none), (35, .iload_n 1, 1, none), (36, .iaload, 1, none), (37, .if_icmp .ge 20, 3, none), (40, .iload_n 3, 1, none), (41, .aload_n 0, 1, none), (42, .iload_n 1, 1, none), (43, .iload 4, 2, none), (45, .iload_n 2, 1, none), (46, .invokevirtual 100, 3, none), (49, .iadd, 1, none), (50, .istore_n 3, 1, none), (51, .iinc 4 1, 3, none), (54, .goto (-25), 3, none), (57, .iload_n 3, 1, some [false, false, false, true, false]), (58, .iconst 0, 1, none), (59, .invokestatic 104, 3, none), (62, .ireturn, 1, none)]
def mi_16 : PI := (0, 5, 1, 3, 1, 1, 40, cd_16)
/-- IllLight$Coast.glow(II)I -/
def cd_17 : List (Nat × Instr × Nat × Option (List Bool)) := [(0, .aload_n 0, 1, none), (1, .iload_n 1, 1, none), (2, .invokevirtual 68, 3, none), (5, .ifCond .eq 16, 3, none), (8, .aload_n 0, 1, none), (9, .iload_n 1, 1, none), (10, .iload_n 2, 1, none), (11, .invokevirtual 109, 3, none), (14, .aload_n 0, 1, none), (15, .getfield 18, 3, none), (18, .if_icmp .ge 5, 3, none), (21, .iconst 0, 1, some [false, false, false, false]), (22, .ireturn, 1, none), (23, .iconst 0, 1, some [true, true, true, false]), (24, .istore_n 3, 1, none), (25, .iload_n 3, 1, some [true, true, true, true]), (26, .aload_n 0, 1, none), (27, .getfield 37, 3, none), (30, .iload_n 1, 1, none), (31, .iaload, 1, none), (32, .if_icmp .ge 35, 3, none), (35, .aload_n 0, 1, none), (36, .getfield 40, 3, none), (39, .iconst 4, 1, none), (40, .iload_n 1, 1, none), (41, .imul, 1, none), (42, .iload_n 3, 1, none), (43, .iadd, 1, none), (44, .iaload, 1, none), (45, .iconst 4, 1, none), (46, .if_icmp .eq 15, 3, none), (49, .aload_n 0, 1, none), (50, .iload_n 1, 1, none), (51, .iload_n 3, 1, none), (52, .iload_n 2, 1, none), (53, .invokevirtual 100, 3, none), (56, .ifCond .ne 5, 3, none), (59, .iconst 1, 1, none), (60, .ireturn, 1, none), (61, .iinc 3 1, 3, some [true, true, true, true]), (64, .goto (-39), 3, none), (67, .iconst 2, 1, some [false, false, false, false]), (68, .ireturn, 1, none)]
def mi_17 : PI := (0, 4, 1, 3, 1, 2, 64, cd_17)
/-- IllLight$Coast.isLit(II)Z -/
def cd_18 : List (Nat × Instr × Nat × Option (List Bool)) := [(0, .iload_n 0, 1, none), (1, .iconst 2, 1, none), (2, .if_icmp .eq 14, 3, none), (5, .iload_n 0, 1, none), (6, .iconst 1, 1, none), (7, .if_icmp .ne 13, 3, none), (10, .iload_n 1, 1, none), (11, .iconst 2, 1, none), (12, .irem, 1, none), (13, .ifCond .ne 7, 3, none), (16, .iconst 1, 1, some [false, false]), (17, .goto 4, 3, none), (20, .iconst 0, 1, some [false, false]), (21, .ireturn, 1, some [false, false])]
def mi_18 : PI := (0, 2, 2, 2, 0, 0, 0, cd_18)
/-- IllLight$Coast.hoursOf(II)I -/
def cd_19 : List (Nat × Instr × Nat × Option (List Bool)) := [(0, .iconst 0, 1, none), (1, .istore_n 3, 1, none), (2, .iconst 0, 1, none), (3, .istore 4, 2, none), (5, .iload 4, 2, some [true, true, true, true, true]), (7, .bipush 24, 2, none), (9, .if_icmp .ge 27, 3, none), (12, .aload_n 0, 1, none), (13, .iload_n 1, 1, none), (14, .iload 4, 2, none), (16, .invokevirtual 112, 3, none), (19, .iload_n 2, 1, none), (20, .if_icmp .ne 10, 3, none), (23, .iload_n 3, 1, none), (24, .iconst 1, 1, none), (25, .iload 4, 2, none), (27, .ishl, 1, none), (28, .ior, 1, none), (29, .istore_n 3, 1, none), (30, .iinc 4 1, 3, some [true, true, true, true, true]), (33, .goto (-28), 3, none), (36, .iload_n 3, 1, some [false, false, false, true, false]), (37, .ireturn, 1, none)]
def mi_19 : PI := (0, 5, 1, 3, 1, 3, 87, cd_19)
/-- IllLight$Coast.litHours(I)I -/
def cd_20 : List (Nat × Instr × Nat × Option (List Bool)) := [(0, .iconst 0, 1, none), (1, .istore_n 2, 1, none), (2, .iconst 0, 1, none), (3, .istore_n 3, 1, none), (4, .iload_n 3, 1, some [true, true, true, true]), (5, .bipush 24, 2, none), (7, .if_icmp .ge 28, 3, none), (10, .aload_n 0, 1, none), (11, .iload_n 1, 1, none), (12, .iload_n 3, 1, none), (13, .invokevirtual 112, 3, none), (16, .iload_n 3, 1, none), (17, .invokestatic 115, 3, none), (20, .ifCond .eq 9, 3, none), (23, .iload_n 2, 1, none), (24, .iconst 1, 1, none), (25, .iload_n 3, 1, none), (26, .ishl, 1, none), (27, .ior, 1, none), (28, .istore_n 2, 1, none), (29, .iinc 3 1, 3, some [true, true, true, true]), (32, .goto (-28), 3, none), (35, .iload_n 2, 1, some [false, false, true, false]), (36, .ireturn, 1, none)]
def mi_20 : PI := (0, 4, 1, 2, 1, 3, 87, cd_20)
/-- IllLight$Coast.worstHour(I)I -/
def cd_21 : List (Nat × Instr × Nat × Option (List Bool)) := [(0, .iconst 0, 1, none), (1, .istore_n 2, 1, none), (2, .iconst 1, 1, none), (3, .istore_n 3, 1, none), (4, .iload_n 3, 1, some [true, true, true, true]), (5, .bipush 24, 2, none), (7, .if_icmp .ge 26, 3, none), (10, .aload_n 0, 1, none), (11, .iload_n 1, 1, none), (12, .iload_n 3, 1, none), (13, .invokevirtual 109, 3, none), (16, .aload_n 0, 1, none), (17, .iload_n 1, 1, none), (18, .iload_n 2, 1, none), (19, .invokevirtual 109, 3, none), (22, .if_icmp .le 5, 3, none), (25, .iload_n 3, 1, none), (26, .istore_n 2, 1, none), (27, .iinc 3 1, 3, some [true, true, true, true]), (30, .goto (-26), 3, none), (33, .iload_n 2, 1, some [false, false, true, false]), (34, .ireturn, 1, none)]
def mi_21 : PI := (0, 4, 1, 2, 1, 2, 64, cd_21)
/-- IllLight$Coast.mutineers(II)I -/
def cd_22 : List (Nat × Instr × Nat × Option (List Bool)) := [(0, .iconst 0, 1, none), (1, .istore_n 3, 1, none), (2, .iconst 1, 1, none), (3, .istore 4, 2, none), (5, .iload 4, 2, some [true, true, true, true, true]), (7, .iconst 4, 1, none), (8, .if_icmp .ge 44, 3, none), (11, .aload_n 0, 1, none), (12, .iload_n 1, 1, none), (13, .iload 4, 2, none), (15, .invokevirtual 119, 3, none), (18, .ifCond .eq 34, 3, none), (21, .aload_n 0, 1, none), (22, .iload_n 1, 1, none), (23, .iload 4, 2, none), (25, .iload_n 2, 1, none), (26, .invokevirtual 100, 3, none), (29, .aload_n 0, 1, none), (30, .iload_n 1, 1, none), (31, .iconst 0, 1, none), (32, .iload_n 2, 1, none), (33, .invokevirtual 100, 3, none), (36, .if_icmp .le 10, 3, none), (39, .iload_n 3, 1, none), (40, .iconst 1, 1, none), (41, .iload 4, 2, none), (43, .ishl, 1, none), (44, .ior, 1, none), (45, .istore_n 3, 1, none), (46, .iinc 4 1, 3, some [true, true, true, true, true]), (49, .goto (-44), 3, none), (52, .iload_n 3, 1, some [false, false, false, true, false]), (53, .ireturn, 1, none)]
def mi_22 : PI := (0, 5, 1, 3, 1, 1, 25, cd_22)
/-- IllLight$Coast.worstMan(II)I -/
def cd_23 : List (Nat × Instr × Nat × Option (List Bool)) := [(0, .iconst 0, 1, none), (1, .istore_n 3, 1, none), (2, .iconst 1, 1, none), (3, .istore 4, 2, none), (5, .iload 4, 2, some [true, true, true, true, true]), (7, .iconst 4, 1, none), (8, .if_icmp .ge 40, 3, none), (11, .aload_n 0, 1, none), (12, .iload_n 1, 1, none), (13, .iload 4, 2, none), (15, .invokevirtual 119, 3, none), (18, .ifCond .eq 30, 3, none), (21, .aload_n 0, 1, none), (22, .iload_n 1, 1, none), (23, .iload 4, 2, none), (25, .iload_n 2, 1, none), (26, .invokevirtual 100, 3, none), (29, .aload_n 0, 1, none), (30, .iload_n 1, 1, none), (31, .iload_n 3, 1, none), (32, .iload_n 2, 1, none), (33, .invokevirtual 100, 3, none), (36, .if_icmp .le 6, 3, none), (39, .iload 4, 2, none), (41, .istore_n 3, 1, none), (42, .iinc 4 1, 3, some [true, true, true, true, true]), (45, .goto (-40), 3, none), (48, .iload_n 3, 1, some [false, false, false, true, false]), (49, .ireturn, 1, none)]
def mi_23 : PI := (0, 5, 1, 3, 1, 1, 25, cd_23)
/-- IllLight$Coast.side(I)I -/
def cd_24 : List (Nat × Instr × Nat × Option (List Bool)) := [(0, .aload_n 0, 1, none), (1, .getfield 28, 3, none), (4, .iload_n 1, 1, none), (5, .iaload, 1, none), (6, .bipush 7, 2, none), (8, .iand, 1, none), (9, .aload_n 0, 1, none), (10, .getfield 49, 3, none), (13, .bipush 7, 2, none), (15, .iand, 1, none), (16, .isub, 1, none), (17, .istore_n 2, 1, none), (18, .aload_n 0, 1, none), (19, .getfield 28, 3, none), (22, .iload_n 1, 1, none), (23, .iaload, 1, none), (24, .iconst 3, 1, none), (25, .ishr, 1, none), (26, .aload_n 0, 1, none), (27, .getfield 49, 3, none), (30, .iconst 3, 1, none), (31, .ishr, 1, none), (32, .isub, 1, none), (33, .istore_n 3, 1, none), (34, .iload_n 2, 1, none), (35, .ifCond .ne 17, 3, none), (38, .iload_n 3, 1, none), (39, .ifCond .eq 13, 3, none), (42, .iload_n 3, 1, none), (43, .ifCond .le 7, 3, none), (46, .iconst 2, 1, none), (47, .goto 4, 3, none), (50, .iconst 0, 1, some [false, false, false, false]), (51, .ireturn, 1, some [false, false, false, false]), (52, .iload_n 3, 1, some [false, false, true, true]), (53, .ifCond .ne 17, 3, none), (56, .iload_n 2, 1, none), (57, .ifCond .eq 13, 3, none), (60, .iload_n 2, 1, none), (61, .ifCond .le 7, 3, none), (64, .iconst 1, 1, none), (65, .goto 4, 3, none), (68, .iconst 3, 1, some [false, false, false, false]), (69, .ireturn, 1, some [false, false, false, false]), (70, .iconst (-1), 1, some [false, false, false, false]), (71, .ireturn, 1, none)]
def mi_24 : PI := (0, 4, 1, 2, 1, 0, 0, cd_24)
/-- IllLight$Coast.fromLamp(I)I -/
def cd_25 : List (Nat × Instr × Nat × Option (List Bool)) := [(0, .aload_n 0, 1, none), (1, .getfield 28, 3, none), (4, .iload_n 1, 1, none), (5, .iaload, 1, none), (6, .bipush 7, 2, none), (8, .iand, 1, none), (9, .aload_n 0, 1, none), (10, .getfield 49, 3, none), (13, .bipush 7, 2, none), (15, .iand, 1, none), (16, .isub, 1, none), (17, .invokestatic 122, 3, none), (20, .aload_n 0, 1, none), (21, .getfield 28, 3, none), (24, .iload_n 1, 1, none), (25, .iaload, 1, none), (26, .iconst 3, 1, none), (27, .ishr, 1, none), (28, .aload_n 0, 1, none), (29, .getfield 49, 3, none), (32, .iconst 3, 1, none), (33, .ishr, 1, none), (34, .isub, 1, none), (35, .invokestatic 122, 3, none), (38, .iadd, 1, none), (39, .ireturn, 1, none)]
def mi_25 : PI := (0, 2, 1, 2, 1, 1, 40, cd_25)
/-- IllLight$Coast.shaded(I)I -/
def cd_26 : List (Nat × Instr × Nat × Option (List Bool)) := [(0, .aload_n 0, 1, none), (1, .iload_n 1, 1, none), (2, .invokevirtual 125, 3, none), (5, .tableswitch 83 0 3 #[31, 40, 57, 73], 31, none), (36, .aload_n 0, 1, some [true, true]), (37, .getfield 28, 3, none), (40, .iload_n 1, 1, none), (41, .iaload, 1, none), (42, .iconst 3, 1, none), (43, .ishr, 1, none), (44, .ireturn, 1, none), (45, .aload_n 0, 1, some [true, true]), (46, .getfield 9, 3, none), (49, .iconst 1, 1, none), (50, .isub, 1, none), (51, .aload_n 0, 1, none), (52, .getfield 28, 3, none), (55, .iload_n 1, 1, none), (56, .iaload, 1, none), (57, .bipush 7, 2, none), (59, .iand, 1, none), (60, .isub, 1, none), (61, .ireturn, 1, none), (62, .aload_n 0, 1, some [true, true]), (63, .getfield 15, 3, none), (66, .iconst 1, 1, none), (67, .isub, 1, none), (68, .aload_n 0, 1, none), (69, .getfield 28, 3, none), (72, .iload_n 1, 1, none), (73, .iaload, 1, none), (74, .iconst 3, 1, none), (75, .ishr, 1, none), (76, .isub, 1, none), (77, .ireturn, 1, none), (78, .aload_n 0, 1, some [true, true]), (79, .getfield 28, 3, none), (82, .iload_n 1, 1, none), (83, .iaload, 1, none), (84, .bipush 7, 2, none), (86, .iand, 1, none), (87, .ireturn, 1, none), (88, .iconst 0, 1, some [false, false]), (89, .ireturn, 1, none)]
def mi_26 : PI := (0, 2, 1, 2, 1, 1, 23, cd_26)
/-- IllLight$Coast.makePlain(III)V -/
def cd_27 : List (Nat × Instr × Nat × Option (List Bool)) := [(0, .aload_n 0, 1, none), (1, .iload_n 1, 1, none), (2, .iload_n 2, 1, none), (3, .invokevirtual 119, 3, none), (6, .ifCond .eq 25, 3, none), (9, .aload_n 0, 1, none), (10, .getfield 40, 3, none), (13, .iconst 4, 1, none), (14, .iload_n 1, 1, none), (15, .imul, 1, none), (16, .iload_n 2, 1, none), (17, .iadd, 1, none), (18, .iconst 0, 1, none), (19, .iastore, 1, none), (20, .aload_n 0, 1, none), (21, .getfield 43, 3, none), (24, .iconst 4, 1, none), (25, .iload_n 1, 1, none), (26, .imul, 1, none), (27, .iload_n 2, 1, none), (28, .iadd, 1, none), (29, .iload_n 3, 1, none), (30, .iastore, 1, none), (31, .return_, 1, some [false, false, false, false])]
def mi_27 : PI := (0, 4, 0, 4, 1, 1, 22, cd_27)
/-- IllLight$Coast.lull(II)V -/
def cd_28 : List (Nat × Instr × Nat × Option (List Bool)) := [(0, .iconst 0, 1, none), (1, .istore_n 3, 1, none), (2, .iload_n 3, 1, some [true, true, true, true]), (3, .iconst 4, 1, none), (4, .if_icmp .ge 37, 3, none), (7, .aload_n 0, 1, none), (8, .iload_n 1, 1, none), (9, .iload_n 3, 1, none), (10, .invokevirtual 119, 3, none), (13, .ifCond .eq 28, 3, none), (16, .iload_n 2, 1, none), (17, .iload_n 3, 1, none), (18, .ishr, 1, none), (19, .iconst 1, 1, none), (20, .iand, 1, none), (21, .ifCond .eq 14, 3, none), (24, .aload_n 0, 1, none), (25, .getfield 40, 3, none), (28, .iconst 4, 1, none), (29, .iload_n 1, 1, none), (30, .imul, 1, none), (31, .iload_n 3, 1, none), (32, .iadd, 1, none), (33, .iconst 4, 1, none), (34, .iastore, 1, none), (35, .iinc 3 1, 3, some [true, true, true, true]), (38, .goto (-36), 3, none), (41, .return_, 1, some [false, false, false, false])]
def mi_28 : PI := (0, 4, 0, 3, 1, 1, 22, cd_28)
/-- IllLight$Course.begin(LIllLight$Coast;)V -/
def cd_29 : List (Nat × Instr × Nat × Option (List Bool)) := [(0, .aload_n 0, 1, none), (1, .getfield 12, 3, none), (4, .aload_n 1, 1, none), (5, .invokevirtual 18, 3, none), (8, .aload_n 0, 1, none), (9, .iconst 0, 1, none), (10, .putfield 22, 3, none), (13, .aload_n 0, 1, none), (14, .iconst 0, 1, none), (15, .putfield 26, 3, none), (18, .aload_n 0, 1, none), (19, .iconst 0, 1, none), (20, .putfield 29, 3, none), (23, .aload_n 0, 1, none), (24, .iconst 0, 1, none), (25, .putfield 32, 3, none), (28, .return_, 1, none)]
def mi_29 : PI := (1, 2, 0, 2, 2, 2, 61, cd_29)
/-- IllLight$Course.follow(LIllLight$Coast;LIllLight$Night;I)I -/
def cd_30 : List (Nat × Instr × Nat × Option (List Bool)) := [(0, .aload_n 0, 1, none), (1, .aload_n 1, 1, none), (2, .invokevirtual 35, 3, none), (5, .iconst 0, 1, none), (6, .istore 4, 2, none), (8, .iload 4, 2, some [true, false, true, true, true, false, false, false]), (10, .iload_n 3, 1, none), (11, .if_icmp .ge 90, 3, none), (14, .iload 4, 2, none), (16, .aload_n 2, 1, none), (17, .getfield 38, 3, none), (20, .if_icmp .ge 81, 3, none), (23, .aload_n 2, 1, none), (24, .getfield 43, 3, none), (27, .iload 4, 2, none), (29, .iaload, 1, none), (30, .istore 5, 2, none), (32, .iconst 3, 1, none), (33, .iload 4, 2, none), (35, .imul, 1, none), (36, .istore 6, 2, none), (38, .aload_n 2, 1, none), (39, .getfield 47, 3, none), (42, .iload 6, 2, none), (44, .iaload, 1, none), (45, .istore 7, 2, none), (47, .iload 5, 2, none), (49, .iconst 3, 1, none), (50, .if_icmp .ne 13, 3, none), (53, .aload_n 0, 1, none), (54, .invokevirtual 50, 3, none), (57, .ifCond .ne 38, 3, none), (60, .goto 41, 3, none), (63, .aload_n 0, 1, some [true, false, true, true, true, true, true, true]), (64, .iload 5, 2, none), (66, .iload 7, 2, none), (68, .aload_n 2, 1, none), (69, .getfield 47, 3, none), (72, .iload 6, 2, none), (74, .iconst 1, 1, none), (75, .iadd, 1, none), (76, .iaload, 1, none), (77, .aload_n 2, 1, none), (78, .getfield 47, 3, none), (81, .iload 6, 2, none), (83, .iconst 2, 1, none), (84, .iadd, 1, none), (85, .iaload, 1, none), (86, .invokevirtual 54, 3, none), (89, .ifCond .ne 6, 3, none), (92, .goto 9, 3, none), (95, .iinc 4 1, 3, some [true, false, true, true, true, false, false, false]), (98, .goto (-90), 3, none), (101, .iload 4, 2, some [false, false, false, false, true, false, false, false]), (103, .ireturn, 1, none)]
def mi_30 : PI := (1, 8, 1, 4, 2, 5, 136, cd_30)
/-- IllLight$Course.draw(LIllLight$Coast;II)V -/
def cd_31 : List (Nat × Instr × Nat × Option (List Bool)) := [(0, .aload_n 0, 1, none), (1, .aload_n 1, 1, none), (2, .invokevirtual 35, 3, none), (5, .aload_n 0, 1, none), (6, .iload_n 2, 1, none), (7, .putfield 58, 3, none), (10, .iconst 0, 1, none), (11, .istore 4, 2, none), (13, .iload 4, 2, some [true, false, false, true, true, false, false, false, false]), (15, .iload_n 3, 1, none), (16, .if_icmp .ge 110, 3, none), (19, .aload_n 0, 1, none), (20, .aload_n 0, 1, none), (21, .getfield 12, 3, none), (24, .getfield 61, 3, none), (27, .invokevirtual 64, 3, none), (30, .istore 5, 2, none), (32, .aload_n 0, 1, none), (33, .bipush 8, 2, none), (35, .invokevirtual 64, 3, none), (38, .istore 6, 2, none), (40, .iload 6, 2, none), (42, .iconst 4, 1, none), (43, .if_icmp .ge 17, 3, none), (46, .aload_n 0, 1, none), (47, .iconst 0, 1, none), (48, .iload 5, 2, none), (50, .iload 6, 2, none), (52, .iconst (-1), 1, none), (53, .invokevirtual 54, 3, none), (56, .pop, 1, none), (57, .goto 63, 3, none), (60, .iload 6, 2, some [true, false, false, true, true, true, true, false, false]), (62, .iconst 4, 1, none), (63, .if_icmp .ne 33, 3, none), (66, .aload_n 0, 1, none), (67, .iconst 4, 1, none), (68, .invokevirtual 64, 3, none), (71, .istore 7, 2, none), (73, .aload_n 0, 1, none), (74, .bipush 10, 2, none), (76, .invokevirtual 64, 3, none), (79, .istore 8, 2, none), (81, .aload_n 0, 1, none), (82, .iconst 1, 1, none), (83, .iload 5, 2, none), (85, .iload 7, 2, none), (87, .iload 8, 2, none), (89, .invokevirtual 54, 3, none), (92, .pop, 1, none), (93, .goto 27, 3, none), (96, .iload 6, 2, some [true, false, false, true, true, true, true, false, false]), (98, .iconst 5, 1, none), (99, .if_icmp .ne 16, 3, none), (102, .aload_n 0, 1, none), (103, .iconst 2, 1, none), (104, .iload 5, 2, none), (106, .iconst (-1), 1, none), (107, .iconst (-1), 1, none), (108, .invokevirtual 54, 3, none), (111, .pop, 1, none), (112, .goto 8, 3, none), (115, .aload_n 0, 1, some [true, false, false, true, true, false, false, false, false]), (116, .invokevirtual 50, 3, none), (119, .pop, 1, none), (120, .iinc 4 1, 3, some [true, false, false, true, true, false, false, false, false]), (123, .goto (-110), 3, none), (126, .return_, 1, some [false, false, false, false, false, false, false, false, false])]
def mi_31 : PI := (1, 9, 0, 4, 2, 5, 136, cd_31)
/-- IllLight$Course.below(I)I -/
def cd_32 : List (Nat × Instr × Nat × Option (List Bool)) := [(0, .aload_n 0, 1, none), (1, .aload_n 0, 1, none), (2, .getfield 58, 3, none), (5, .ldc 68, 2, none), (7, .imul, 1, none), (8, .sipush 12345, 3, none), (11, .iadd, 1, none), (12, .putfield 58, 3, none), (15, .iload_n 1, 1, none), (16, .iconst 1, 1, none), (17, .if_icmp .ge 7, 3, none), (20, .iconst 0, 1, none), (21, .goto 12, 3, none), (24, .aload_n 0, 1, some [true, true]), (25, .getfield 58, 3, none), (28, .bipush 16, 2, none), (30, .iushr, 1, none), (31, .iload_n 1, 1, none), (32, .irem, 1, none), (33, .ireturn, 1, some [false, false])]
def mi_32 : PI := (1, 2, 1, 2, 2, 0, 0, cd_32)
/-- IllLight$Course.act(IIII)Z -/
def cd_33 : List (Nat × Instr × Nat × Option (List Bool)) := [(0, .aload_n 0, 1, none), (1, .getfield 12, 3, none), (4, .iload_n 2, 1, none), (5, .invokevirtual 69, 3, none), (8, .ifCond .eq 11, 3, none), (11, .aload_n 0, 1, none), (12, .iload_n 2, 1, none), (13, .invokevirtual 73, 3, none), (16, .ifCond .eq 5, 3, none), (19, .iconst 0, 1, some [false, false, false, false, false]), (20, .ireturn, 1, none), (21, .iload_n 1, 1, some [true, true, true, true, true]), (22, .tableswitch 60 0 2 #[26, 33, 54], 26, none), (48, .aload_n 0, 1, some [true, false, true, true, false]), (49, .iload_n 2, 1, none), (50, .iload_n 3, 1, none), (51, .invokevirtual 76, 3, none), (54, .ireturn, 1, none), (55, .aload_n 0, 1, some [true, false, true, true, true]), (56, .getfield 12, 3, none), (59, .iload_n 2, 1, none), (60, .iload_n 3, 1, none), (61, .iload 4, 2, none), (63, .invokevirtual 80, 3, none), (66, .aload_n 0, 1, none), (67, .getfield 12, 3, none), (70, .iload_n 2, 1, none), (71, .iload_n 3, 1, none), (72, .invokevirtual 84, 3, none), (75, .ireturn, 1, none), (76, .aload_n 0, 1, some [true, false, true, false, false]), (77, .iload_n 2, 1, none), (78, .invokevirtual 87, 3, none), (81, .ireturn, 1, none), (82, .iconst 0, 1, some [false, false, false, false, false]), (83, .ireturn, 1, none)]
def mi_33 : PI := (1, 5, 2, 5, 2, 2, 45, cd_33)
/-- IllLight$Course.isLost(I)Z -/
def cd_34 : List (Nat × Instr × Nat × Option (List Bool)) := [(0, .aload_n 0, 1, none), (1, .getfield 29, 3, none), (4, .aload_n 0, 1, none), (5, .getfield 32, 3, none), (8, .ior, 1, none), (9, .iload_n 1, 1, none), (10, .ishr, 1, none), (11, .iconst 1, 1, none), (12, .iand, 1, none), (13, .ifCond .eq 7, 3, none), (16, .iconst 1, 1, none), (17, .goto 4, 3, none), (20, .iconst 0, 1, some [false, false]), (21, .ireturn, 1, some [false, false])]
def mi_34 : PI := (1, 2, 2, 2, 2, 0, 0, cd_34)
/-- IllLight$Course.sail(II)Z -/
def cd_35 : List (Nat × Instr × Nat × Option (List Bool)) := [(0, .aload_n 0, 1, none), (1, .getfield 12, 3, none), (4, .getfield 90, 3, none), (7, .iload_n 1, 1, none), (8, .iaload, 1, none), (9, .bipush 7, 2, none), (11, .iand, 1, none), (12, .istore_n 3, 1, none), (13, .aload_n 0, 1, none), (14, .getfield 12, 3, none), (17, .getfield 90, 3, none), (20, .iload_n 1, 1, none), (21, .iaload, 1, none), (22, .iconst 3, 1, none), (23, .ishr, 1, none), (24, .istore 4, 2, none), (26, .iload 4, 2, none), (28, .iload_n 2, 1, none), (29, .ifCond .ne 7, 3, none), (32, .iconst (-1), 1, none), (33, .goto 13, 3, none), (36, .iload_n 2, 1, some [true, true, true, true, false]), (37, .iconst 2, 1, none), (38, .if_icmp .ne 7, 3, none), (41, .iconst 1, 1, none), (42, .goto 4, 3, none), (45, .iconst 0, 1, some [true, true, true, true, false]), (46, .iadd, 1, some [true, true, true, true, false]), (47, .istore 4, 2, none), (49, .iload_n 3, 1, none), (50, .iload_n 2, 1, none), (51, .iconst 3, 1, none), (52, .if_icmp .ne 7, 3, none), (55, .iconst (-1), 1, none), (56, .goto 13, 3, none), (59, .iload_n 2, 1, some [true, true, true, false, true]), (60, .iconst 1, 1, none), (61, .if_icmp .ne 7, 3, none), (64, .iconst 1, 1, none), (65, .goto 4, 3, none), (68, .iconst 0, 1, some [true, true, false, false, true]), (69, .iadd, 1, some [true, true, false, false, true]), (70, .istore_n 3, 1, none), (71, .aload_n 0, 1, none), (72, .getfield 26, 3, none), (75, .iload_n 1, 1, none), (76, .ishr, 1, none), (77, .iconst 1, 1, none), (78, .iand, 1, none), (79, .ifCond .ne 35, 3, none), (82, .iload 4, 2, none), (84, .ifCond .lt 30, 3, none), (87, .iload 4, 2, none), (89, .aload_n 0, 1, none), (90, .getfield 12, 3, none), (93, .getfield 93, 3, none), (96, .if_icmp .ge 18, 3, none), (99, .iload_n 3, 1, none), (100, .ifCond .lt 14, 3, none), (103, .iload_n 3, 1, none), (104, .aload_n 0, 1, none), (105, .getfield 12, 3, none), (108, .getfield 96, 3, none), (111, .if_icmp .lt 5, 3, none), (114, .iconst 0, 1, some [false, false, false, false, false]), (115, .ireturn, 1, none), (116, .aload_n 0, 1, some [true, true, false, true, true]), (117, .getfield 12, 3, none), (120, .getfield 90, 3, none), (123, .iload_n 1, 1, none), (124, .bipush 8, 2, none), (126, .iload 4, 2, none), (128, .imul, 1, none), (129, .iload_n 3, 1, none), (130, .iadd, 1, none), (131, .iastore, 1, none), (132, .aload_n 0, 1, none), (133, .dup, 1, none), (134, .getfield 26, 3, none), (137, .iconst 1, 1, none), (138, .iload_n 1, 1, none), (139, .ishl, 1, none), (140, .ior, 1, none), (141, .putfield 26, 3, none), (144, .iconst 1, 1, none), (145, .ireturn, 1, none)]
def mi_35 : PI := (1, 5, 2, 3, 2, 0, 0, cd_35)
/-- IllLight$Course.throwOut(I)Z -/
def cd_36 : List (Nat × Instr × Nat × Option (List Bool)) := [(0, .aload_n 0, 1, none), (1, .getfield 12, 3, none), (4, .getfield 99, 3, none), (7, .iload_n 1, 1, none), (8, .iaload, 1, none), (9, .ifCond .ne 5, 3, none), (12, .iconst 0, 1, none), (13, .ireturn, 1, none), (14, .aload_n 0, 1, some [true, true]), (15, .getfield 12, 3, none), (18, .getfield 99, 3, none), (21, .iload_n 1, 1, none), (22, .dup2, 1, none), (23, .iaload, 1, none), (24, .iconst 1, 1, none), (25, .isub, 1, none), (26, .iastore, 1, none), (27, .iconst 1, 1, none), (28, .ireturn, 1, none)]
def mi_36 : PI := (1, 2, 2, 2, 2, 0, 0, cd_36)
/-- IllLight$Course.pass()Z -/
def cd_37 : List (Nat × Instr × Nat × Option (List Bool)) := [(0, .aload_n 0, 1, none), (1, .getfield 22, 3, none), (4, .iconst 1, 1, none), (5, .iadd, 1, none), (6, .bipush 24, 2, none), (8, .if_icmp .lt 5, 3, none), (11, .iconst 0, 1, none), (12, .ireturn, 1, none), (13, .aload_n 0, 1, some [true, false, false, false, false, false, false, false]), (14, .invokevirtual 102, 3, none), (17, .istore_n 1, 1, none), (18, .aload_n 0, 1, none), (19, .getfield 12, 3, none), (22, .invokevirtual 106, 3, none), (25, .lstore_n 2, 1, none), (26, .iconst 0, 1, none), (27, .istore 4, 2, none), (29, .iload 4, 2, some [true, true, true, false, true, false, false, false]), (31, .aload_n 0, 1, none), (32, .getfield 12, 3, none), (35, .getfield 61, 3, none), (38, .if_icmp .ge 119, 3, none), (41, .aload_n 0, 1, none), (42, .iload 4, 2, none), (44, .invokevirtual 73, 3, none), (47, .ifCond .eq 6, 3, none), (50, .goto 101, 3, none), (53, .iload_n 1, 1, some [true, true, true, false, true, false, false, false]), (54, .iload 4, 2, none), (56, .ishr, 1, none), (57, .iconst 1, 1, none), (58, .iand, 1, none), (59, .ifCond .eq 7, 3, none), (62, .iconst 1, 1, none), (63, .goto 4, 3, none), (66, .iconst 0, 1, some [true, true, true, false, true, false, false, false]), (67, .istore 5, 2, some [true, true, true, false, true, false, false, false]), (69, .iload 5, 2, none), (71, .ifCond .eq 7, 3, none), (74, .lload_n 2, 1, none), (75, .goto 10, 3, none), (78, .aload_n 0, 1, some [true, true, true, false, true, true, false, false]), (79, .getfield 12, 3, none), (82, .getfield 110, 3, none), (85, .lstore 6, 2, some [true, true, true, false, true, true, false, false]), (87, .lload 6, 2, none), (89, .aload_n 0, 1, none), (90, .getfield 12, 3, none), (93, .getfield 90, 3, none), (96, .iload 4, 2, none), (98, .iaload, 1, none), (99, .lushr, 1, none), (100, .lconst 1, 1, none), (101, .land, 1, none), (102, .lconst 0, 1, none), (103, .lcmp, 1, none), (104, .ifCond .eq 47, 3, none), (107, .aload_n 0, 1, none), (108, .dup, 1, none), (109, .getfield 32, 3, none), (112, .iload 5, 2, none), (114, .ifCond .eq 10, 3, none), (117, .iconst 1, 1, none), (118, .iload 4, 2, none), (120, .ishl, 1, none), (121, .goto 4, 3, none), (124, .iconst 0, 1, some [true, true, true, false, true, true, false, false]), (125, .ior, 1, some [true, true, true, false, true, true, false, false]), (126, .putfield 32, 3, none), (129, .aload_n 0, 1, none), (130, .dup, 1, none), (131, .getfield 29, 3, none), (134, .iload 5, 2, none), (136, .ifCond .eq 7, 3, none), (139, .iconst 0, 1, none), (140, .goto 7, 3, none), (143, .iconst 1, 1, some [true, true, true, false, true, false, false, false]), (144, .iload 4, 2, none), (146, .ishl, 1, none), (147, .ior, 1, some [true, true, true, false, true, false, false, false]), (148, .putfield 29, 3, none), (151, .iinc 4 1, 3, some [true, true, true, false, true, false, false, false]), (154, .goto (-125), 3, none), (157, .aload_n 0, 1, some [true, false, false, false, false, false, false, false]), (158, .dup, 1, none), (159, .getfield 22, 3, none), (162, .iconst 1, 1, none), (163, .iadd, 1, none), (164, .putfield 22, 3, none), (167, .aload_n 0, 1, none), (168, .iconst 0, 1, none), (169, .putfield 26, 3, none), (172, .iconst 1, 1, none), (173, .ireturn, 1, none)]
def mi_37 : PI := (1, 8, 2, 1, 2, 4, 109, cd_37)
/-- IllLight$Course.beam()I -/
def cd_38 : List (Nat × Instr × Nat × Option (List Bool)) := [(0, .iconst 0, 1, none), (1, .istore_n 1, 1, none), (2, .iconst 0, 1, none), (3, .istore_n 2, 1, none), (4, .iload_n 2, 1, some [true, true, true]), (5, .aload_n 0, 1, none), (6, .getfield 12, 3, none), (9, .getfield 61, 3, none), (12, .if_icmp .ge 49, 3, none), (15, .aload_n 0, 1, none), (16, .iload_n 2, 1, none), (17, .invokevirtual 73, 3, none), (20, .ifCond .ne 35, 3, none), (23, .aload_n 0, 1, none), (24, .getfield 12, 3, none), (27, .aload_n 0, 1, none), (28, .iload_n 2, 1, none), (29, .invokevirtual 114, 3, none), (32, .aload_n 0, 1, none), (33, .getfield 22, 3, none), (36, .invokevirtual 117, 3, none), (39, .aload_n 0, 1, none), (40, .getfield 22, 3, none), (43, .invokestatic 121, 3, none), (46, .ifCond .eq 9, 3, none), (49, .iload_n 1, 1, none), (50, .iconst 1, 1, none), (51, .iload_n 2, 1, none), (52, .ishl, 1, none), (53, .ior, 1, none), (54, .istore_n 1, 1, none), (55, .iinc 2 1, 3, some [true, true, true]), (58, .goto (-54), 3, none), (61, .iload_n 1, 1, some [false, true, false]), (62, .ireturn, 1, none)]
def mi_38 : PI := (1, 3, 1, 1, 2, 3, 87, cd_38)
/-- IllLight$Course.whoseLight(I)I -/
def cd_39 : List (Nat × Instr × Nat × Option (List Bool)) := [(0, .aload_n 0, 1, none), (1, .getfield 12, 3, none), (4, .iload_n 1, 1, none), (5, .invokevirtual 124, 3, none), (8, .istore_n 2, 1, none), (9, .iload_n 1, 1, none), (10, .istore_n 3, 1, none), (11, .iconst 0, 1, none), (12, .istore 4, 2, none), (14, .iload 4, 2, some [true, false, true, true, true]), (16, .aload_n 0, 1, none), (17, .getfield 12, 3, none), (20, .getfield 61, 3, none), (23, .if_icmp .ge 59, 3, none), (26, .iload_n 2, 1, none), (27, .iconst (-1), 1, none), (28, .if_icmp .eq 54, 3, none), (31, .aload_n 0, 1, none), (32, .iload 4, 2, none), (34, .invokevirtual 73, 3, none), (37, .ifCond .ne 39, 3, none), (40, .aload_n 0, 1, none), (41, .getfield 12, 3, none), (44, .iload 4, 2, none), (46, .invokevirtual 124, 3, none), (49, .iload_n 2, 1, none), (50, .if_icmp .ne 26, 3, none), (53, .aload_n 0, 1, none), (54, .getfield 12, 3, none), (57, .iload 4, 2, none), (59, .invokevirtual 127, 3, none), (62, .aload_n 0, 1, none), (63, .getfield 12, 3, none), (66, .iload_n 3, 1, none), (67, .invokevirtual 127, 3, none), (70, .if_icmp .ge 6, 3, none), (73, .iload 4, 2, none), (75, .istore_n 3, 1, none), (76, .iinc 4 1, 3, some [true, false, true, true, true]), (79, .goto (-65), 3, none), (82, .iload_n 3, 1, some [false, false, false, true, false]), (83, .ireturn, 1, none)]
def mi_39 : PI := (1, 5, 1, 2, 2, 2, 61, cd_39)
/-- IllLight$Course.told(I)I -/
def cd_40 : List (Nat × Instr × Nat × Option (List Bool)) := [(0, .iload_n 1, 1, none), (1, .tableswitch 42 0 2 #[27, 32, 37], 27, none), (28, .aload_n 0, 1, some [true, false]), (29, .getfield 22, 3, none), (32, .ireturn, 1, none), (33, .aload_n 0, 1, some [true, false]), (34, .getfield 29, 3, none), (37, .ireturn, 1, none), (38, .aload_n 0, 1, some [true, false]), (39, .getfield 32, 3, none), (42, .ireturn, 1, none), (43, .iload_n 1, 1, some [true, true]), (44, .bipush 10, 2, none), (46, .if_icmp .ge 6, 3, none), (49, .bipush (-2), 2, none), (51, .ireturn, 1, none), (52, .iload_n 1, 1, some [true, true]), (53, .bipush 50, 2, none), (55, .if_icmp .ge 18, 3, none), (58, .aload_n 0, 1, none), (59, .iload_n 1, 1, none), (60, .bipush 10, 2, none), (62, .idiv, 1, none), (63, .iload_n 1, 1, none), (64, .bipush 10, 2, none), (66, .irem, 1, none), (67, .invokevirtual 130, 3, none), (70, .goto 19, 3, none), (73, .aload_n 0, 1, some [true, true]), (74, .iload_n 1, 1, none), (75, .bipush 50, 2, none), (77, .isub, 1, none), (78, .iconst 4, 1, none), (79, .idiv, 1, none), (80, .iload_n 1, 1, none), (81, .bipush 50, 2, none), (83, .isub, 1, none), (84, .iconst 4, 1, none), (85, .irem, 1, none), (86, .invokevirtual 133, 3, none), (89, .ireturn, 1, some [false, false])]
def mi_40 : PI := (1, 2, 1, 2, 2, 5, 131, cd_40)
/-- IllLight$Course.toldOfShip(II)I -/
def cd_41 : List (Nat × Instr × Nat × Option (List Bool)) := [(0, .aload_n 0, 1, none), (1, .getfield 12, 3, none), (4, .iload_n 2, 1, none), (5, .invokevirtual 69, 3, none), (8, .ifCond .ne 6, 3, none), (11, .bipush (-2), 2, none), (13, .ireturn, 1, none), (14, .iload_n 1, 1, some [true, true, true]), (15, .tableswitch 77 1 3 #[25, 54, 64], 25, none), (40, .aload_n 0, 1, some [true, false, true]), (41, .iload_n 2, 1, none), (42, .invokevirtual 73, 3, none), (45, .ifCond .eq 7, 3, none), (48, .iconst (-1), 1, none), (49, .goto 19, 3, none), (52, .aload_n 0, 1, some [true, false, true]), (53, .getfield 12, 3, none), (56, .aload_n 0, 1, none), (57, .getfield 12, 3, none), (60, .getfield 90, 3, none), (63, .iload_n 2, 1, none), (64, .iaload, 1, none), (65, .invokevirtual 136, 3, none), (68, .ireturn, 1, some [false, false, false]), (69, .aload_n 0, 1, some [true, false, true]), (70, .getfield 12, 3, none), (73, .getfield 99, 3, none), (76, .iload_n 2, 1, none), (77, .iaload, 1, none), (78, .ireturn, 1, none), (79, .aload_n 0, 1, some [true, false, true]), (80, .getfield 12, 3, none), (83, .iload_n 2, 1, none), (84, .aload_n 0, 1, none), (85, .getfield 22, 3, none), (88, .invokevirtual 139, 3, none), (91, .ireturn, 1, none), (92, .aload_n 0, 1, some [true, false, true]), (93, .invokevirtual 102, 3, none), (96, .iload_n 2, 1, none), (97, .ishr, 1, none), (98, .iconst 1, 1, none), (99, .iand, 1, none), (100, .ireturn, 1, none)]
def mi_41 : PI := (1, 3, 1, 3, 2, 4, 109, cd_41)
/-- IllLight$Course.toldOfMan(II)I -/
def cd_42 : List (Nat × Instr × Nat × Option (List Bool)) := [(0, .aload_n 0, 1, none), (1, .getfield 12, 3, none), (4, .iload_n 1, 1, none), (5, .iload_n 2, 1, none), (6, .invokevirtual 84, 3, none), (9, .ifCond .eq 19, 3, none), (12, .aload_n 0, 1, none), (13, .getfield 12, 3, none), (16, .iload_n 1, 1, none), (17, .iload_n 2, 1, none), (18, .aload_n 0, 1, none), (19, .getfield 22, 3, none), (22, .invokevirtual 142, 3, none), (25, .goto 5, 3, none), (28, .bipush (-2), 2, some [false, false, false]), (30, .ireturn, 1, some [false, false, false])]
def mi_42 : PI := (1, 3, 1, 3, 2, 1, 25, cd_42)
/-- IllLight$Log.clear()V -/
def cd_43 : List (Nat × Instr × Nat × Option (List Bool)) := [(0, .aload_n 0, 1, none), (1, .iconst 0, 1, none), (2, .putfield 25, 3, none), (5, .aload_n 0, 1, none), (6, .iconst 1, 1, none), (7, .putfield 15, 3, none), (10, .aload_n 0, 1, none), (11, .iconst 0, 1, none), (12, .putfield 28, 3, none), (15, .aload_n 0, 1, none), (16, .iconst 0, 1, none), (17, .putfield 31, 3, none), (20, .return_, 1, none)]
def mi_43 : PI := (2, 1, 0, 1, 3, 0, 0, cd_43)
/-- IllLight$Log.copyFrom(LIllLight$Log;)V -/
def cd_44 : List (Nat × Instr × Nat × Option (List Bool)) := [(0, .aload_n 0, 1, none), (1, .aload_n 1, 1, none), (2, .getfield 25, 3, none), (5, .putfield 25, 3, none), (8, .aload_n 0, 1, none), (9, .aload_n 1, 1, none), (10, .getfield 15, 3, none), (13, .putfield 15, 3, none), (16, .aload_n 0, 1, none), (17, .aload_n 1, 1, none), (18, .getfield 28, 3, none), (21, .putfield 28, 3, none), (24, .aload_n 0, 1, none), (25, .aload_n 1, 1, none), (26, .getfield 31, 3, none), (29, .putfield 31, 3, none), (32, .aload_n 1, 1, none), (33, .getfield 9, 3, none), (36, .iconst 0, 1, none), (37, .aload_n 0, 1, none), (38, .getfield 9, 3, none), (41, .iconst 0, 1, none), (42, .bipush 6, 2, none), (44, .invokestatic 34, 3, none), (47, .aload_n 1, 1, none), (48, .getfield 19, 3, none), (51, .iconst 0, 1, none), (52, .aload_n 0, 1, none), (53, .getfield 19, 3, none), (56, .iconst 0, 1, none), (57, .bipush 10, 2, none), (59, .invokestatic 34, 3, none), (62, .aload_n 1, 1, none), (63, .getfield 22, 3, none), (66, .iconst 0, 1, none), (67, .aload_n 0, 1, none), (68, .getfield 22, 3, none), (71, .iconst 0, 1, none), (72, .bipush 10, 2, none), (74, .invokestatic 34, 3, none), (77, .return_, 1, none)]
def mi_44 : PI := (2, 2, 0, 2, 3, 1, 40, cd_44)
/-- IllLight$Log.addMan(I)V -/
def cd_45 : List (Nat × Instr × Nat × Option (List Bool)) := [(0, .aload_n 0, 1, none), (1, .getfield 25, 3, none), (4, .bipush 6, 2, none), (6, .if_icmp .ge 23, 3, none), (9, .aload_n 0, 1, none), (10, .getfield 9, 3, none), (13, .aload_n 0, 1, none), (14, .getfield 25, 3, none), (17, .iload_n 1, 1, none), (18, .iastore, 1, none), (19, .aload_n 0, 1, none), (20, .dup, 1, none), (21, .getfield 25, 3, none), (24, .iconst 1, 1, none), (25, .iadd, 1, none), (26, .putfield 25, 3, none), (29, .return_, 1, some [false, false])]
def mi_45 : PI := (2, 2, 0, 2, 3, 0, 0, cd_45)
/-- IllLight$Log.addFact(II)V -/
def cd_46 : List (Nat × Instr × Nat × Option (List Bool)) := [(0, .aload_n 0, 1, none), (1, .getfield 31, 3, none), (4, .bipush 10, 2, none), (6, .if_icmp .ge 33, 3, none), (9, .aload_n 0, 1, none), (10, .getfield 19, 3, none), (13, .aload_n 0, 1, none), (14, .getfield 31, 3, none), (17, .iload_n 1, 1, none), (18, .iastore, 1, none), (19, .aload_n 0, 1, none), (20, .getfield 22, 3, none), (23, .aload_n 0, 1, none), (24, .getfield 31, 3, none), (27, .iload_n 2, 1, none), (28, .iastore, 1, none), (29, .aload_n 0, 1, none), (30, .dup, 1, none), (31, .getfield 31, 3, none), (34, .iconst 1, 1, none), (35, .iadd, 1, none), (36, .putfield 31, 3, none), (39, .return_, 1, some [false, false, false])]
def mi_46 : PI := (2, 3, 0, 3, 3, 0, 0, cd_46)
/-- IllLight$Log.hasMan(I)Z -/
def cd_47 : List (Nat × Instr × Nat × Option (List Bool)) := [(0, .iload_n 1, 1, none), (1, .ifCond .lt 15, 3, none), (4, .iload_n 1, 1, none), (5, .aload_n 0, 1, none), (6, .getfield 25, 3, none), (9, .if_icmp .ge 7, 3, none), (12, .iconst 1, 1, none), (13, .goto 4, 3, none), (16, .iconst 0, 1, some [false, false]), (17, .ireturn, 1, some [false, false])]
def mi_47 : PI := (2, 2, 2, 2, 3, 0, 0, cd_47)
/-- IllLight$Log.told(I)I -/
def cd_48 : List (Nat × Instr × Nat × Option (List Bool)) := [(0, .iload_n 1, 1, none), (1, .tableswitch 51 0 3 #[31, 36, 41, 46], 31, none), (32, .aload_n 0, 1, some [true, false]), (33, .getfield 25, 3, none), (36, .ireturn, 1, none), (37, .aload_n 0, 1, some [true, false]), (38, .getfield 15, 3, none), (41, .ireturn, 1, none), (42, .aload_n 0, 1, some [true, false]), (43, .getfield 28, 3, none), (46, .ireturn, 1, none), (47, .aload_n 0, 1, some [true, false]), (48, .getfield 31, 3, none), (51, .ireturn, 1, none), (52, .iload_n 1, 1, some [true, true]), (53, .bipush 10, 2, none), (55, .if_icmp .ge 7, 3, none), (58, .iconst (-1), 1, none), (59, .goto 15, 3, none), (62, .aload_n 0, 1, some [true, true]), (63, .iload_n 1, 1, none), (64, .bipush 10, 2, none), (66, .idiv, 1, none), (67, .iload_n 1, 1, none), (68, .bipush 10, 2, none), (70, .irem, 1, none), (71, .invokevirtual 40, 3, none), (74, .ireturn, 1, some [false, false])]
def mi_48 : PI := (2, 2, 1, 2, 3, 2, 43, cd_48)
/-- IllLight$Log.toldOfOne(II)I -/
def cd_49 : List (Nat × Instr × Nat × Option (List Bool)) := [(0, .iload_n 1, 1, none), (1, .tableswitch 84 1 3 #[27, 46, 65], 27, none), (28, .aload_n 0, 1, some [true, false, true]), (29, .iload_n 2, 1, none), (30, .invokevirtual 44, 3, none), (33, .ifCond .eq 12, 3, none), (36, .aload_n 0, 1, none), (37, .getfield 9, 3, none), (40, .iload_n 2, 1, none), (41, .iaload, 1, none), (42, .goto 4, 3, none), (45, .iconst (-1), 1, some [false, false, false]), (46, .ireturn, 1, some [false, false, false]), (47, .iload_n 2, 1, some [true, false, true]), (48, .aload_n 0, 1, none), (49, .getfield 31, 3, none), (52, .if_icmp .ge 12, 3, none), (55, .aload_n 0, 1, none), (56, .getfield 19, 3, none), (59, .iload_n 2, 1, none), (60, .iaload, 1, none), (61, .goto 4, 3, none), (64, .iconst (-1), 1, some [false, false, false]), (65, .ireturn, 1, some [false, false, false]), (66, .iload_n 2, 1, some [true, false, true]), (67, .aload_n 0, 1, none), (68, .getfield 31, 3, none), (71, .if_icmp .ge 12, 3, none), (74, .aload_n 0, 1, none), (75, .getfield 22, 3, none), (78, .iload_n 2, 1, none), (79, .iaload, 1, none), (80, .goto 4, 3, none), (83, .iconst (-1), 1, some [false, false, false]), (84, .ireturn, 1, some [false, false, false]), (85, .iconst (-1), 1, some [false, false, false]), (86, .ireturn, 1, none)]
def mi_49 : PI := (2, 3, 1, 3, 3, 1, 21, cd_49)
/-- IllLight$Log.sets()I -/
def cd_50 : List (Nat × Instr × Nat × Option (List Bool)) := [(0, .iconst 1, 1, none), (1, .aload_n 0, 1, none), (2, .getfield 25, 3, none), (5, .ishl, 1, none), (6, .ireturn, 1, none)]
def mi_50 : PI := (2, 1, 1, 1, 3, 0, 0, cd_50)
/-- IllLight$Log.shines(II)Z -/
def cd_51 : List (Nat × Instr × Nat × Option (List Bool)) := [(0, .iload_n 1, 1, none), (1, .invokestatic 48, 3, none), (4, .istore_n 3, 1, none), (5, .iload_n 3, 1, none), (6, .aload_n 0, 1, none), (7, .getfield 15, 3, none), (10, .if_icmp .lt 21, 3, none), (13, .iload_n 3, 1, none), (14, .aload_n 0, 1, none), (15, .getfield 25, 3, none), (18, .if_icmp .eq 9, 3, none), (21, .iload_n 2, 1, none), (22, .iconst 2, 1, none), (23, .irem, 1, none), (24, .ifCond .ne 7, 3, none), (27, .iconst 1, 1, some [false, false, false, false]), (28, .goto 4, 3, none), (31, .iconst 0, 1, some [false, false, false, false]), (32, .ireturn, 1, some [false, false, false, false])]
def mi_51 : PI := (2, 4, 2, 3, 3, 1, 20, cd_51)
/-- IllLight$Log.agrees(II)Z -/
def cd_52 : List (Nat × Instr × Nat × Option (List Bool)) := [(0, .aload_n 0, 1, none), (1, .iload_n 1, 1, none), (2, .aload_n 0, 1, none), (3, .getfield 22, 3, none), (6, .iload_n 2, 1, none), (7, .iaload, 1, none), (8, .invokevirtual 54, 3, none), (11, .aload_n 0, 1, none), (12, .getfield 19, 3, none), (15, .iload_n 2, 1, none), (16, .iaload, 1, none), (17, .iconst 1, 1, none), (18, .if_icmp .ne 7, 3, none), (21, .iconst 1, 1, none), (22, .goto 4, 3, none), (25, .iconst 0, 1, some [false, false, false]), (26, .if_icmp .ne 7, 3, some [false, false, false]), (29, .iconst 1, 1, none), (30, .goto 4, 3, none), (33, .iconst 0, 1, some [false, false, false]), (34, .ireturn, 1, some [false, false, false])]
def mi_52 : PI := (2, 3, 2, 3, 3, 2, 43, cd_52)
/-- IllLight$Log.allAgree(I)Z -/
def cd_53 : List (Nat × Instr × Nat × Option (List Bool)) := [(0, .iconst 0, 1, none), (1, .istore_n 2, 1, none), (2, .iload_n 2, 1, some [true, true, true]), (3, .aload_n 0, 1, none), (4, .getfield 31, 3, none), (7, .if_icmp .ge 20, 3, none), (10, .aload_n 0, 1, none), (11, .iload_n 1, 1, none), (12, .iload_n 2, 1, none), (13, .invokevirtual 58, 3, none), (16, .ifCond .ne 5, 3, none), (19, .iconst 0, 1, none), (20, .ireturn, 1, none), (21, .iinc 2 1, 3, some [true, true, true]), (24, .goto (-22), 3, none), (27, .iconst 1, 1, some [false, false, false]), (28, .ireturn, 1, none)]
def mi_53 : PI := (2, 3, 2, 2, 3, 3, 65, cd_53)
/-- IllLight$Log.fitting()J -/
def cd_54 : List (Nat × Instr × Nat × Option (List Bool)) := [(0, .lconst 0, 1, none), (1, .lstore_n 1, 1, none), (2, .iconst 0, 1, none), (3, .istore_n 3, 1, none), (4, .iload_n 3, 1, some [true, true, false, true]), (5, .aload_n 0, 1, none), (6, .invokevirtual 61, 3, none), (9, .if_icmp .ge 23, 3, none), (12, .aload_n 0, 1, none), (13, .iload_n 3, 1, none), (14, .invokevirtual 65, 3, none), (17, .ifCond .eq 9, 3, none), (20, .lload_n 1, 1, none), (21, .lconst 1, 1, none), (22, .iload_n 3, 1, none), (23, .lshl, 1, none), (24, .lor, 1, none), (25, .lstore_n 1, 1, none), (26, .iinc 3 1, 3, some [true, true, false, true]), (29, .goto (-25), 3, none), (32, .lload_n 1, 1, some [false, true, false, false]), (33, .lreturn, 1, none)]
def mi_54 : PI := (2, 4, 3, 1, 3, 4, 87, cd_54)
/-- IllLight$Log.sure(J)I -/
def cd_55 : List (Nat × Instr × Nat × Option (List Bool)) := [(0, .lload_n 1, 1, none), (1, .lconst 0, 1, none), (2, .lcmp, 1, none), (3, .ifCond .ne 5, 3, none), (6, .iconst (-1), 1, none), (7, .ireturn, 1, none), (8, .aload_n 0, 1, some [true, true, false, false, false]), (9, .invokevirtual 61, 3, none), (12, .iconst 1, 1, none), (13, .isub, 1, none), (14, .istore_n 3, 1, none), (15, .iconst 0, 1, none), (16, .istore 4, 2, none), (18, .iload 4, 2, some [true, true, false, true, true]), (20, .aload_n 0, 1, none), (21, .invokevirtual 61, 3, none), (24, .if_icmp .ge 25, 3, none), (27, .lload_n 1, 1, none), (28, .iload 4, 2, none), (30, .lushr, 1, none), (31, .lconst 1, 1, none), (32, .land, 1, none), (33, .lconst 0, 1, none), (34, .lcmp, 1, none), (35, .ifCond .eq 8, 3, none), (38, .iload_n 3, 1, none), (39, .iload 4, 2, none), (41, .iand, 1, none), (42, .istore_n 3, 1, none), (43, .iinc 4 1, 3, some [true, true, false, true, true]), (46, .goto (-28), 3, none), (49, .iload_n 3, 1, some [false, false, false, true, false]), (50, .ireturn, 1, none)]
def mi_55 : PI := (2, 5, 1, 2, 3, 1, 20, cd_55)
/-- IllLight$Log.setAt(JI)I -/
def cd_56 : List (Nat × Instr × Nat × Option (List Bool)) := [(0, .iconst 0, 1, none), (1, .istore 4, 2, none), (3, .iconst 0, 1, none), (4, .istore 5, 2, none), (6, .iload 5, 2, some [true, true, false, true, true, true]), (8, .aload_n 0, 1, none), (9, .invokevirtual 61, 3, none), (12, .if_icmp .ge 35, 3, none), (15, .lload_n 1, 1, none), (16, .iload 5, 2, none), (18, .lushr, 1, none), (19, .lconst 1, 1, none), (20, .land, 1, none), (21, .lconst 0, 1, none), (22, .lcmp, 1, none), (23, .ifCond .ne 6, 3, none), (26, .goto 15, 3, none), (29, .iload 4, 2, some [true, true, false, true, true, true]), (31, .iload_n 3, 1, none), (32, .if_icmp .ne 6, 3, none), (35, .iload 5, 2, none), (37, .ireturn, 1, none), (38, .iinc 4 1, 3, some [true, true, false, true, true, true]), (41, .iinc 5 1, 3, some [true, true, false, true, true, true]), (44, .goto (-38), 3, none), (47, .bipush (-2), 2, some [false, false, false, false, false, false]), (49, .ireturn, 1, none)]
def mi_56 : PI := (2, 6, 1, 3, 3, 1, 20, cd_56)
/-- IllLight$Log.hourToAsk(J)I -/
def cd_57 : List (Nat × Instr × Nat × Option (List Bool)) := [(0, .lload_n 1, 1, none), (1, .invokestatic 68, 3, none), (4, .istore_n 3, 1, none), (5, .iconst (-1), 1, none), (6, .istore 4, 2, none), (8, .iload_n 3, 1, none), (9, .iconst 1, 1, none), (10, .iadd, 1, none), (11, .istore 5, 2, none), (13, .iconst 0, 1, none), (14, .istore 6, 2, none), (16, .iload 6, 2, some [true, true, false, true, true, true, true, false, false]), (18, .bipush 24, 2, none), (20, .if_icmp .ge 52, 3, none), (23, .iload_n 3, 1, none), (24, .ifCond .le 48, 3, none), (27, .lload_n 1, 1, none), (28, .aload_n 0, 1, none), (29, .iload 6, 2, none), (31, .invokevirtual 73, 3, none), (34, .land, 1, none), (35, .invokestatic 68, 3, none), (38, .istore 7, 2, none), (40, .iload 7, 2, none), (42, .iload_n 3, 1, none), (43, .iload 7, 2, none), (45, .isub, 1, none), (46, .invokestatic 77, 3, none), (49, .istore 8, 2, none), (51, .iload 8, 2, none), (53, .iload 5, 2, none), (55, .if_icmp .ge 11, 3, none), (58, .iload 8, 2, none), (60, .istore 5, 2, none), (62, .iload 6, 2, none), (64, .istore 4, 2, none), (66, .iinc 6 1, 3, some [true, true, false, true, true, true, true, false, false]), (69, .goto (-53), 3, none), (72, .iload 4, 2, some [false, false, false, false, true, false, false, false, false]), (74, .ireturn, 1, none)]
def mi_57 : PI := (2, 9, 1, 2, 3, 3, 67, cd_57)
/-- IllLight$Log.shiningAt(I)J -/
def cd_58 : List (Nat × Instr × Nat × Option (List Bool)) := [(0, .lconst 0, 1, none), (1, .lstore_n 2, 1, none), (2, .iconst 0, 1, none), (3, .istore 4, 2, none), (5, .iload 4, 2, some [true, true, true, false, true]), (7, .aload_n 0, 1, none), (8, .invokevirtual 61, 3, none), (11, .if_icmp .ge 26, 3, none), (14, .aload_n 0, 1, none), (15, .iload 4, 2, none), (17, .iload_n 1, 1, none), (18, .invokevirtual 54, 3, none), (21, .ifCond .eq 10, 3, none), (24, .lload_n 2, 1, none), (25, .lconst 1, 1, none), (26, .iload 4, 2, none), (28, .lshl, 1, none), (29, .lor, 1, none), (30, .lstore_n 2, 1, none), (31, .iinc 4 1, 3, some [true, true, true, false, true]), (34, .goto (-29), 3, none), (37, .lload_n 2, 1, some [false, false, true, false, false]), (38, .lreturn, 1, none)]
def mi_58 : PI := (2, 5, 3, 2, 3, 2, 43, cd_58)
/-- IllLight$Log.weightOf(II)J -/
def cd_59 : List (Nat × Instr × Nat × Option (List Bool)) := [(0, .lconst 0, 1, none), (1, .lstore_n 3, 1, none), (2, .iconst 0, 1, none), (3, .istore 5, 2, none), (5, .iload 5, 2, some [true, true, true, true, false, true]), (7, .aload_n 0, 1, none), (8, .invokevirtual 61, 3, none), (11, .if_icmp .ge 41, 3, none), (14, .iload 5, 2, none), (16, .iload_n 1, 1, none), (17, .iand, 1, none), (18, .iload_n 1, 1, none), (19, .if_icmp .ne 27, 3, none), (22, .iload_n 2, 1, none), (23, .iconst (-1), 1, none), (24, .if_icmp .eq 13, 3, none), (27, .aload_n 0, 1, none), (28, .iload 5, 2, none), (30, .iload_n 2, 1, none), (31, .invokevirtual 54, 3, none), (34, .ifCond .eq 12, 3, none), (37, .lload_n 3, 1, some [true, true, true, true, false, true]), (38, .aload_n 0, 1, none), (39, .iload 5, 2, none), (41, .invokevirtual 82, 3, none), (44, .ladd, 1, none), (45, .lstore_n 3, 1, none), (46, .iinc 5 1, 3, some [true, true, true, true, false, true]), (49, .goto (-44), 3, none), (52, .lload_n 3, 1, some [false, false, false, true, false, false]), (53, .lreturn, 1, none)]
def mi_59 : PI := (2, 6, 3, 3, 3, 4, 89, cd_59)
/-- IllLight$Log.weight(I)J -/
def cd_60 : List (Nat × Instr × Nat × Option (List Bool)) := [(0, .lconst 1, 1, none), (1, .lstore_n 2, 1, none), (2, .iconst 0, 1, none), (3, .istore 4, 2, none), (5, .iload 4, 2, some [true, true, true, false, true]), (7, .aload_n 0, 1, none), (8, .getfield 25, 3, none), (11, .if_icmp .ge 43, 3, none), (14, .lload_n 2, 1, none), (15, .iload_n 1, 1, none), (16, .iload 4, 2, none), (18, .ishr, 1, none), (19, .iconst 1, 1, none), (20, .iand, 1, none), (21, .ifCond .eq 14, 3, none), (24, .aload_n 0, 1, none), (25, .getfield 9, 3, none), (28, .iload 4, 2, none), (30, .iaload, 1, none), (31, .i2l, 1, none), (32, .goto 14, 3, none), (35, .bipush 10, 2, some [true, true, false, false, true]), (37, .aload_n 0, 1, none), (38, .getfield 9, 3, none), (41, .iload 4, 2, none), (43, .iaload, 1, none), (44, .isub, 1, none), (45, .i2l, 1, none), (46, .lmul, 1, some [true, true, false, false, true]), (47, .lstore_n 2, 1, none), (48, .iinc 4 1, 3, none), (51, .goto (-46), 3, none), (54, .iconst 0, 1, some [true, true, true, false, false]), (55, .istore 4, 2, none), (57, .iload 4, 2, some [true, true, true, false, true]), (59, .aload_n 0, 1, none), (60, .getfield 31, 3, none), (63, .if_icmp .ge 38, 3, none), (66, .lload_n 2, 1, none), (67, .aload_n 0, 1, none), (68, .iload_n 1, 1, none), (69, .iload 4, 2, none), (71, .invokevirtual 58, 3, none), (74, .ifCond .eq 14, 3, none), (77, .bipush 10, 2, none), (79, .aload_n 0, 1, none), (80, .getfield 28, 3, none), (83, .isub, 1, none), (84, .i2l, 1, none), (85, .goto 8, 3, none), (88, .aload_n 0, 1, some [true, true, false, false, true]), (89, .getfield 28, 3, none), (92, .i2l, 1, none), (93, .lmul, 1, some [true, true, false, false, true]), (94, .lstore_n 2, 1, none), (95, .iinc 4 1, 3, none), (98, .goto (-41), 3, none), (101, .lload_n 2, 1, some [false, false, true, false, false]), (102, .lreturn, 1, none)]
def mi_60 : PI := (2, 5, 3, 2, 3, 3, 65, cd_60)
/-- IllLight$Night.add(IIII)V -/
def cd_61 : List (Nat × Instr × Nat × Option (List Bool)) := [(0, .aload_n 0, 1, none), (1, .getfield 18, 3, none), (4, .bipush 40, 2, none), (6, .if_icmp .ge 64, 3, none), (9, .aload_n 0, 1, none), (10, .getfield 9, 3, none), (13, .aload_n 0, 1, none), (14, .getfield 18, 3, none), (17, .iload_n 1, 1, none), (18, .iastore, 1, none), (19, .aload_n 0, 1, none), (20, .getfield 15, 3, none), (23, .iconst 3, 1, none), (24, .aload_n 0, 1, none), (25, .getfield 18, 3, none), (28, .imul, 1, none), (29, .iload_n 2, 1, none), (30, .iastore, 1, none), (31, .aload_n 0, 1, none), (32, .getfield 15, 3, none), (35, .iconst 3, 1, none), (36, .aload_n 0, 1, none), (37, .getfield 18, 3, none), (40, .imul, 1, none), (41, .iconst 1, 1, none), (42, .iadd, 1, none), (43, .iload_n 3, 1, none), (44, .iastore, 1, none), (45, .aload_n 0, 1, none), (46, .getfield 15, 3, none), (49, .iconst 3, 1, none), (50, .aload_n 0, 1, none), (51, .getfield 18, 3, none), (54, .imul, 1, none), (55, .iconst 2, 1, none), (56, .iadd, 1, none), (57, .iload 4, 2, none), (59, .iastore, 1, none), (60, .aload_n 0, 1, none), (61, .dup, 1, none), (62, .getfield 18, 3, none), (65, .iconst 1, 1, none), (66, .iadd, 1, none), (67, .putfield 18, 3, none), (70, .return_, 1, some [false, false, false, false, false])]
def mi_61 : PI := (3, 5, 0, 5, 4, 0, 0, cd_61)
/-- IllLight$Night.copyFrom(LIllLight$Night;)V -/
def cd_62 : List (Nat × Instr × Nat × Option (List Bool)) := [(0, .aload_n 0, 1, none), (1, .aload_n 1, 1, none), (2, .getfield 18, 3, none), (5, .putfield 18, 3, none), (8, .aload_n 1, 1, none), (9, .getfield 9, 3, none), (12, .iconst 0, 1, none), (13, .aload_n 0, 1, none), (14, .getfield 9, 3, none), (17, .iconst 0, 1, none), (18, .bipush 40, 2, none), (20, .invokestatic 22, 3, none), (23, .aload_n 1, 1, none), (24, .getfield 15, 3, none), (27, .iconst 0, 1, none), (28, .aload_n 0, 1, none), (29, .getfield 15, 3, none), (32, .iconst 0, 1, none), (33, .bipush 120, 2, none), (35, .invokestatic 22, 3, none), (38, .return_, 1, none)]
def mi_62 : PI := (3, 2, 0, 2, 4, 1, 40, cd_62)
/-- IllLight$Night.told(II)I -/
def cd_63 : List (Nat × Instr × Nat × Option (List Bool)) := [(0, .iload_n 1, 1, none), (1, .ifCond .lt 20, 3, none), (4, .iload_n 1, 1, none), (5, .aload_n 0, 1, none), (6, .getfield 18, 3, none), (9, .if_icmp .ge 12, 3, none), (12, .iload_n 2, 1, none), (13, .ifCond .lt 8, 3, none), (16, .iload_n 2, 1, none), (17, .iconst 3, 1, none), (18, .if_icmp .le 6, 3, none), (21, .bipush (-2), 2, some [false, false, false]), (23, .ireturn, 1, none), (24, .iload_n 2, 1, some [true, true, true]), (25, .ifCond .ne 12, 3, none), (28, .aload_n 0, 1, none), (29, .getfield 9, 3, none), (32, .iload_n 1, 1, none), (33, .iaload, 1, none), (34, .goto 15, 3, none), (37, .aload_n 0, 1, some [true, true, true]), (38, .getfield 15, 3, none), (41, .iconst 3, 1, none), (42, .iload_n 1, 1, none), (43, .imul, 1, none), (44, .iload_n 2, 1, none), (45, .iadd, 1, none), (46, .iconst 1, 1, none), (47, .isub, 1, none), (48, .iaload, 1, none), (49, .ireturn, 1, some [false, false, false])]
def mi_63 : PI := (3, 3, 1, 3, 4, 0, 0, cd_63)
/-- IllLight$Reader.read([III)V -/
def cd_64 : List (Nat × Instr × Nat × Option (List Bool)) := [(0, .aload_n 0, 1, none), (1, .invokevirtual 36, 3, none), (4, .iconst 0, 1, none), (5, .istore 4, 2, none), (7, .iload 4, 2, some [true, true, true, true, true]), (9, .sipush 600, 3, none), (12, .if_icmp .gt 49, 3, none), (15, .aload_n 0, 1, none), (16, .aload_n 1, 1, none), (17, .iload_n 2, 1, none), (18, .invokevirtual 39, 3, none), (21, .aload_n 0, 1, none), (22, .getfield 43, 3, none), (25, .ifCond .ne 6, 3, none), (28, .goto 33, 3, none), (31, .aload_n 0, 1, some [true, true, true, true, true]), (32, .aload_n 1, 1, none), (33, .iload_n 2, 1, none), (34, .iload_n 3, 1, none), (35, .invokevirtual 47, 3, none), (38, .ifCond .ne 17, 3, none), (41, .aload_n 0, 1, none), (42, .iconst 1, 1, none), (43, .putfield 51, 3, none), (46, .aload_n 0, 1, none), (47, .aload_n 0, 1, none), (48, .getfield 54, 3, none), (51, .putfield 57, 3, none), (54, .return_, 1, none), (55, .iinc 4 1, 3, some [true, true, true, true, true]), (58, .goto (-51), 3, none), (61, .iload_n 3, 1, some [true, false, true, true, false]), (62, .ifCond .ne 8, 3, none), (65, .aload_n 0, 1, none), (66, .iload_n 2, 1, none), (67, .invokevirtual 60, 3, none), (70, .return_, 1, some [false, false, false, false, false])]
def mi_64 : PI := (4, 5, 0, 4, 5, 7, 156, cd_64)
/-- IllLight$Reader.begin()V -/
def cd_65 : List (Nat × Instr × Nat × Option (List Bool)) := [(0, .aload_n 0, 1, none), (1, .getfield 12, 3, none), (4, .invokevirtual 64, 3, none), (7, .aload_n 0, 1, none), (8, .getfield 21, 3, none), (11, .iconst 0, 1, none), (12, .putfield 67, 3, none), (15, .aload_n 0, 1, none), (16, .getfield 28, 3, none), (19, .invokevirtual 70, 3, none), (22, .aload_n 0, 1, none), (23, .iconst 0, 1, none), (24, .putfield 51, 3, none), (27, .aload_n 0, 1, none), (28, .iconst (-1), 1, none), (29, .putfield 57, 3, none), (32, .aload_n 0, 1, none), (33, .iconst 0, 1, none), (34, .putfield 71, 3, none), (37, .aload_n 0, 1, none), (38, .iconst 0, 1, none), (39, .putfield 74, 3, none), (42, .aload_n 0, 1, none), (43, .iconst 0, 1, none), (44, .putfield 77, 3, none), (47, .aload_n 0, 1, none), (48, .iconst (-1), 1, none), (49, .putfield 80, 3, none), (52, .return_, 1, none)]
def mi_65 : PI := (4, 1, 0, 1, 5, 1, 20, cd_65)
/-- IllLight$Reader.note(II)V -/
def cd_66 : List (Nat × Instr × Nat × Option (List Bool)) := [(0, .aload_n 0, 1, none), (1, .getfield 51, 3, none), (4, .ifCond .ne 13, 3, none), (7, .aload_n 0, 1, none), (8, .iload_n 1, 1, none), (9, .putfield 51, 3, none), (12, .aload_n 0, 1, none), (13, .iload_n 2, 1, none), (14, .putfield 57, 3, none), (17, .return_, 1, some [false, false, false])]
def mi_66 : PI := (4, 3, 0, 3, 5, 0, 0, cd_66)
/-- IllLight$Reader.advance([II)V -/
def cd_67 : List (Nat × Instr × Nat × Option (List Bool)) := [(0, .aload_n 0, 1, none), (1, .aload_n 0, 1, none), (2, .getfield 71, 3, none), (5, .putfield 54, 3, none), (8, .aload_n 0, 1, some [true, true, true]), (9, .getfield 54, 3, none), (12, .iload_n 2, 1, none), (13, .if_icmp .ge 38, 3, none), (16, .aload_n 1, 1, none), (17, .aload_n 0, 1, none), (18, .getfield 54, 3, none), (21, .iaload, 1, none), (22, .bipush 10, 2, none), (24, .if_icmp .eq 14, 3, none), (27, .aload_n 1, 1, none), (28, .aload_n 0, 1, none), (29, .getfield 54, 3, none), (32, .iaload, 1, none), (33, .bipush 32, 2, none), (35, .if_icmp .ne 16, 3, none), (38, .aload_n 0, 1, some [true, true, true]), (39, .dup, 1, none), (40, .getfield 54, 3, none), (43, .iconst 1, 1, none), (44, .iadd, 1, none), (45, .putfield 54, 3, none), (48, .goto (-40), 3, none), (51, .aload_n 0, 1, some [true, true, true]), (52, .aload_n 0, 1, none), (53, .getfield 54, 3, none), (56, .putfield 71, 3, none), (59, .aload_n 0, 1, none), (60, .getfield 54, 3, none), (63, .iload_n 2, 1, none), (64, .if_icmp .lt 11, 3, none), (67, .aload_n 0, 1, none), (68, .iconst 0, 1, none), (69, .putfield 43, 3, none), (72, .goto 156, 3, none), (75, .aload_n 1, 1, some [true, true, true]), (76, .aload_n 0, 1, none), (77, .getfield 54, 3, none), (80, .iaload, 1, none), (81, .invokestatic 83, 3, none), (84, .ifCond .eq 44, 3, none), (87, .aload_n 0, 1, some [true, true, true]), (88, .getfield 71, 3, none), (91, .iload_n 2, 1, none), (92, .if_icmp .ge 28, 3, none), (95, .aload_n 1, 1, none), (96, .aload_n 0, 1, none), (97, .getfield 71, 3, none), (100, .iaload, 1, none), (101, .invokestatic 83, 3, none), (104, .ifCond .eq 16, 3, none), (107, .aload_n 0, 1, none), (108, .dup, 1, none), (109, .getfield 71, 3, none), (112, .iconst 1, 1, none), (113, .iadd, 1, none), (114, .putfield 71, 3, none), (117, .goto (-30), 3, none), (120, .aload_n 0, 1, some [true, false, false]), (121, .iconst 1, 1, none), (122, .putfield 43, 3, none), (125, .goto 103, 3, none), (128, .aload_n 1, 1, some [true, true, true]), (129, .aload_n 0, 1, none), (130, .getfield 54, 3, none), (133, .iaload, 1, none), (134, .invokestatic 87, 3, none), (137, .ifCond .eq 61, 3, none), (140, .aload_n 0, 1, some [true, true, true]), (141, .getfield 71, 3, none), (144, .iload_n 2, 1, none), (145, .if_icmp .ge 28, 3, none), (148, .aload_n 1, 1, none), (149, .aload_n 0, 1, none), (150, .getfield 71, 3, none), (153, .iaload, 1, none), (154, .invokestatic 87, 3, none), (157, .ifCond .eq 16, 3, none), (160, .aload_n 0, 1, none), (161, .dup, 1, none), (162, .getfield 71, 3, none), (165, .iconst 1, 1, none), (166, .iadd, 1, none), (167, .putfield 71, 3, none), (170, .goto (-30), 3, none), (173, .aload_n 0, 1, some [true, false, false]), (174, .aload_n 0, 1, none), (175, .getfield 71, 3, none), (178, .aload_n 0, 1, none), (179, .getfield 54, 3, none), (182, .isub, 1, none), (183, .iconst 2, 1, none), (184, .if_icmp .gt 7, 3, none), (187, .iconst 2, 1, none), (188, .goto 4, 3, none), (191, .iconst 4, 1, some [false, false, false]), (192, .putfield 43, 3, some [false, false, false]), (195, .goto 33, 3, none), (198, .aload_n 0, 1, some [true, true, false]), (199, .aload_n 0, 1, none), (200, .getfield 54, 3, none), (203, .iconst 1, 1, none), (204, .iadd, 1, none), (205, .putfield 71, 3, none), (208, .aload_n 0, 1, none), (209, .aload_n 1, 1, none), (210, .aload_n 0, 1, none), (211, .getfield 54, 3, none), (214, .iaload, 1, none), (215, .bipush 59, 2, none), (217, .if_icmp .ne 7, 3, none), (220, .iconst 3, 1, none), (221, .goto 4, 3, none), (224, .iconst 4, 1, some [false, false, false]), (225, .putfield 43, 3, some [false, false, false]), (228, .return_, 1, some [false, false, false])]
def mi_67 : PI := (4, 3, 0, 3, 5, 1, 20, cd_67)
/-- IllLight$Reader.isLetter(I)Z -/
def cd_68 : List (Nat × Instr × Nat × Option (List Bool)) := [(0, .iload_n 0, 1, none), (1, .bipush 97, 2, none), (3, .if_icmp .lt 13, 3, none), (6, .iload_n 0, 1, none), (7, .bipush 122, 2, none), (9, .if_icmp .gt 7, 3, none), (12, .iconst 1, 1, none), (13, .goto 4, 3, none), (16, .iconst 0, 1, some [false]), (17, .ireturn, 1, some [false])]
def mi_68 : PI := (4, 1, 2, 1, 0, 0, 0, cd_68)
/-- IllLight$Reader.isDigit(I)Z -/
def cd_69 : List (Nat × Instr × Nat × Option (List Bool)) := [(0, .iload_n 0, 1, none), (1, .bipush 48, 2, none), (3, .if_icmp .lt 13, 3, none), (6, .iload_n 0, 1, none), (7, .bipush 57, 2, none), (9, .if_icmp .gt 7, 3, none), (12, .iconst 1, 1, none), (13, .goto 4, 3, none), (16, .iconst 0, 1, some [false]), (17, .ireturn, 1, some [false])]
def mi_69 : PI := (4, 1, 2, 1, 0, 0, 0, cd_69)
/-- IllLight$Reader.readLine([III)Z -/
def cd_70 : List (Nat × Instr × Nat × Option (List Bool)) := [(0, .aload_n 0, 1, none), (1, .getfield 43, 3, none), (4, .iconst 1, 1, none), (5, .if_icmp .ne 12, 3, none), (8, .aload_n 0, 1, none), (9, .aload_n 1, 1, none), (10, .iload_n 3, 1, none), (11, .invokevirtual 90, 3, none), (14, .goto 4, 3, none), (17, .iconst (-1), 1, some [true, true, true, false, false, false]), (18, .istore 4, 2, some [true, true, true, false, false, false]), (20, .iload 4, 2, none), (22, .iconst (-1), 1, none), (23, .if_icmp .ne 5, 3, none), (26, .iconst 0, 1, none), (27, .ireturn, 1, none), (28, .aload_n 0, 1, some [true, true, true, false, true, false]), (29, .iload 4, 2, none), (31, .invokevirtual 94, 3, none), (34, .iconst 0, 1, none), (35, .istore 5, 2, none), (37, .iload 5, 2, some [true, true, true, false, true, true]), (39, .aload_n 0, 1, none), (40, .getfield 32, 3, none), (43, .arraylength, 1, none), (44, .if_icmp .ge 104, 3, none), (47, .aload_n 0, 1, none), (48, .getfield 32, 3, none), (51, .iload 5, 2, none), (53, .iconst (-1), 1, none), (54, .iastore, 1, none), (55, .iload 5, 2, none), (57, .getstatic 97, 3, none), (60, .iload 4, 2, none), (62, .iaload, 1, none), (63, .if_icmp .lt 6, 3, none), (66, .goto 76, 3, none), (69, .aload_n 0, 1, some [true, true, true, false, true, true]), (70, .aload_n 1, 1, none), (71, .iload_n 2, 1, none), (72, .invokevirtual 39, 3, none), (75, .aload_n 0, 1, none), (76, .getfield 43, 3, none), (79, .iconst 2, 1, none), (80, .if_icmp .eq 5, 3, none), (83, .iconst 0, 1, none), (84, .ireturn, 1, none), (85, .aload_n 0, 1, some [true, true, true, false, true, true]), (86, .getfield 32, 3, none), (89, .iload 5, 2, none), (91, .aload_n 0, 1, none), (92, .aload_n 1, 1, none), (93, .invokevirtual 100, 3, none), (96, .iastore, 1, none), (97, .aload_n 0, 1, none), (98, .getfield 32, 3, none), (101, .iload 5, 2, none), (103, .iaload, 1, none), (104, .iload 4, 2, none), (106, .invokestatic 104, 3, none), (109, .if_icmp .lt 24, 3, none), (112, .aload_n 0, 1, none), (113, .getfield 32, 3, none), (116, .iload 5, 2, none), (118, .iaload, 1, none), (119, .getstatic 108, 3, none), (122, .iconst 4, 1, none), (123, .iload 4, 2, none), (125, .imul, 1, none), (126, .iload 5, 2, none), (128, .iadd, 1, none), (129, .iaload, 1, none), (130, .if_icmp .le 12, 3, none), (133, .aload_n 0, 1, some [true, true, true, false, true, true]), (134, .iconst 2, 1, none), (135, .aload_n 0, 1, none), (136, .getfield 54, 3, none), (139, .invokevirtual 111, 3, none), (142, .iinc 5 1, 3, some [true, true, true, false, true, true]), (145, .goto (-108), 3, none), (148, .aload_n 0, 1, some [true, true, true, false, true, false]), (149, .aload_n 1, 1, none), (150, .iload_n 2, 1, none), (151, .invokevirtual 39, 3, none), (154, .aload_n 0, 1, none), (155, .getfield 43, 3, none), (158, .iconst 3, 1, none), (159, .if_icmp .eq 5, 3, none), (162, .iconst 0, 1, none), (163, .ireturn, 1, none), (164, .aload_n 0, 1, some [true, false, false, false, true, false]), (165, .getfield 51, 3, none), (168, .ifCond .ne 9, 3, none), (171, .aload_n 0, 1, none), (172, .iload 4, 2, none), (174, .invokevirtual 115, 3, none), (177, .iconst 1, 1, some [false, false, false, false, false, false]), (178, .ireturn, 1, none)]
def mi_70 : PI := (4, 6, 2, 4, 5, 6, 131, cd_70)
/-- IllLight$Reader.wordHere([II)I -/
def cd_71 : List (Nat × Instr × Nat × Option (List Bool)) := [(0, .iload_n 2, 1, none), (1, .ifCond .lt 13, 3, none), (4, .iload_n 2, 1, none), (5, .iconst 1, 1, none), (6, .iadd, 1, none), (7, .getstatic 118, 3, none), (10, .arraylength, 1, none), (11, .if_icmp .lt 5, 3, none), (14, .iconst (-1), 1, some [false, false, false, false]), (15, .ireturn, 1, none), (16, .getstatic 118, 3, some [true, true, true, false]), (19, .iload_n 2, 1, none), (20, .iaload, 1, none), (21, .istore_n 3, 1, none), (22, .iload_n 3, 1, some [true, true, true, true]), (23, .getstatic 118, 3, none), (26, .iload_n 2, 1, none), (27, .iconst 1, 1, none), (28, .iadd, 1, none), (29, .iaload, 1, none), (30, .if_icmp .ge 23, 3, none), (33, .aload_n 0, 1, none), (34, .aload_n 1, 1, none), (35, .iload_n 3, 1, none), (36, .invokestatic 121, 3, none), (39, .invokevirtual 125, 3, none), (42, .ifCond .eq 5, 3, none), (45, .iload_n 3, 1, none), (46, .ireturn, 1, none), (47, .iinc 3 1, 3, some [true, true, true, true]), (50, .goto (-28), 3, none), (53, .iconst (-1), 1, some [false, false, false, false]), (54, .ireturn, 1, none)]
def mi_71 : PI := (4, 4, 1, 3, 5, 5, 108, cd_71)
/-- IllLight$Reader.isHere([ILjava/lang/String;)Z -/
def cd_72 : List (Nat × Instr × Nat × Option (List Bool)) := [(0, .aload_n 2, 1, none), (1, .invokevirtual 129, 3, none), (4, .aload_n 0, 1, none), (5, .getfield 71, 3, none), (8, .aload_n 0, 1, none), (9, .getfield 54, 3, none), (12, .isub, 1, none), (13, .if_icmp .eq 5, 3, none), (16, .iconst 0, 1, none), (17, .ireturn, 1, none), (18, .iconst 0, 1, some [true, true, true, false]), (19, .istore_n 3, 1, none), (20, .iload_n 3, 1, some [true, true, true, true]), (21, .aload_n 2, 1, none), (22, .invokevirtual 129, 3, none), (25, .if_icmp .ge 27, 3, none), (28, .aload_n 1, 1, none), (29, .aload_n 0, 1, none), (30, .getfield 54, 3, none), (33, .iload_n 3, 1, none), (34, .iadd, 1, none), (35, .iaload, 1, none), (36, .aload_n 2, 1, none), (37, .iload_n 3, 1, none), (38, .invokevirtual 135, 3, none), (41, .if_icmp .eq 5, 3, none), (44, .iconst 0, 1, none), (45, .ireturn, 1, none), (46, .iinc 3 1, 3, some [true, true, true, true]), (49, .goto (-29), 3, none), (52, .iconst 1, 1, some [false, false, false, false]), (53, .ireturn, 1, none)]
def mi_72 : PI := (4, 4, 2, 3, 5, 4, 85, cd_72)
/-- IllLight$Reader.nameOf(I)Ljava/lang/String; -/
def cd_73 : List (Nat × Instr × Nat × Option (List Bool)) := [(0, .iload_n 0, 1, none), (1, .tableswitch 162 0 20 #[99, 102, 105, 108, 111, 114, 117, 120, 123, 126, 129, 132, 135, 138, 141, 144, 147, 150, 153, 156, 159], 99, none), (100, .ldc 139, 2, some [false]), (102, .areturn, 1, none), (103, .ldc 141, 2, some [false]), (105, .areturn, 1, none), (106, .ldc 143, 2, some [false]), (108, .areturn, 1, none), (109, .ldc 145, 2, some [false]), (111, .areturn, 1, none), (112, .ldc 147, 2, some [false]), (114, .areturn, 1, none), (115, .ldc 149, 2, some [false]), (117, .areturn, 1, none), (118, .ldc 151, 2, some [false]), (120, .areturn, 1, none), (121, .ldc 153, 2, some [false]), (123, .areturn, 1, none), (124, .ldc 155, 2, some [false]), (126, .areturn, 1, none), (127, .ldc 157, 2, some [false]), (129, .areturn, 1, none), (130, .ldc 159, 2, some [false]), (132, .areturn, 1, none), (133, .ldc 161, 2, some [false]), (135, .areturn, 1, none), (136, .ldc 163, 2, some [false]), (138, .areturn, 1, none), (139, .ldc 165, 2, some [false]), (141, .areturn, 1, none), (142, .ldc 167, 2, some [false]), (144, .areturn, 1, none), (145, .ldc 169, 2, some [false]), (147, .areturn, 1, none), (148, .ldc 171, 2, some [false]), (150, .areturn, 1, none), (151, .ldc 149, 2, some [false]), (153, .areturn, 1, none), (154, .ldc 173, 2, some [false]), (156, .areturn, 1, none), (157, .ldc 175, 2, some [false]), (159, .areturn, 1, none), (160, .ldc 177, 2, some [false]), (162, .areturn, 1, none), (163, .ldc 179, 2, some [false]), (165, .areturn, 1, none)]
def mi_73 : PI := (4, 1, 4, 1, 0, 0, 0, cd_73)
/-- IllLight$Reader.numberHere([I)I -/
def cd_74 : List (Nat × Instr × Nat × Option (List Bool)) := [(0, .iconst 0, 1, none), (1, .istore_n 2, 1, none), (2, .aload_n 0, 1, none), (3, .getfield 54, 3, none), (6, .istore_n 3, 1, none), (7, .iload_n 3, 1, some [true, true, true, true]), (8, .aload_n 0, 1, none), (9, .getfield 71, 3, none), (12, .if_icmp .ge 21, 3, none), (15, .bipush 10, 2, none), (17, .iload_n 2, 1, none), (18, .imul, 1, none), (19, .aload_n 1, 1, none), (20, .iload_n 3, 1, none), (21, .iaload, 1, none), (22, .iadd, 1, none), (23, .bipush 48, 2, none), (25, .isub, 1, none), (26, .istore_n 2, 1, none), (27, .iinc 3 1, 3, none), (30, .goto (-23), 3, none), (33, .iload_n 2, 1, some [false, false, true, false]), (34, .ireturn, 1, none)]
def mi_74 : PI := (4, 4, 1, 2, 5, 0, 0, cd_74)
/-- IllLight$Reader.least(I)I -/
def cd_75 : List (Nat × Instr × Nat × Option (List Bool)) := [(0, .iload_n 0, 1, none), (1, .ifCond .ne 5, 3, none), (4, .iconst 2, 1, none), (5, .ireturn, 1, none), (6, .iload_n 0, 1, some [true]), (7, .iconst 5, 1, none), (8, .if_icmp .eq 9, 3, none), (11, .iload_n 0, 1, none), (12, .bipush 17, 2, none), (14, .if_icmp .ne 7, 3, none), (17, .iconst 1, 1, some [false]), (18, .goto 4, 3, none), (21, .iconst 0, 1, some [false]), (22, .ireturn, 1, some [false])]
def mi_75 : PI := (4, 1, 1, 1, 0, 0, 0, cd_75)
/-- IllLight$Reader.isKind(I)Z -/
def cd_76 : List (Nat × Instr × Nat × Option (List Bool)) := [(0, .iload_n 0, 1, none), (1, .bipush 6, 2, none), (3, .if_icmp .lt 13, 3, none), (6, .iload_n 0, 1, none), (7, .bipush 12, 2, none), (9, .if_icmp .ge 7, 3, none), (12, .iconst 1, 1, none), (13, .goto 4, 3, none), (16, .iconst 0, 1, some [false]), (17, .ireturn, 1, some [false])]
def mi_76 : PI := (4, 1, 2, 1, 0, 0, 0, cd_76)
/-- IllLight$Reader.isDeed(I)Z -/
def cd_77 : List (Nat × Instr × Nat × Option (List Bool)) := [(0, .iload_n 0, 1, none), (1, .bipush 12, 2, none), (3, .if_icmp .lt 13, 3, none), (6, .iload_n 0, 1, none), (7, .bipush 16, 2, none), (9, .if_icmp .ge 7, 3, none), (12, .iconst 1, 1, none), (13, .goto 4, 3, none), (16, .iconst 0, 1, some [false]), (17, .ireturn, 1, some [false])]
def mi_77 : PI := (4, 1, 2, 1, 0, 0, 0, cd_77)
/-- IllLight$Reader.noteTooMany(I)V -/
def cd_78 : List (Nat × Instr × Nat × Option (List Bool)) := [(0, .aload_n 0, 1, none), (1, .getfield 12, 3, none), (4, .getfield 181, 3, none), (7, .iconst 1, 1, none), (8, .isub, 1, none), (9, .istore_n 2, 1, none), (10, .iload_n 1, 1, none), (11, .iconst 3, 1, none), (12, .if_icmp .ne 14, 3, none), (15, .aload_n 0, 1, none), (16, .getfield 12, 3, none), (19, .getfield 184, 3, none), (22, .iconst 4, 1, none), (23, .if_icmp .eq 111, 3, none), (26, .iload_n 1, 1, some [true, true, true, false]), (27, .iconst 4, 1, none), (28, .if_icmp .ne 14, 3, none), (31, .aload_n 0, 1, none), (32, .getfield 12, 3, none), (35, .getfield 181, 3, none), (38, .iconst 4, 1, none), (39, .if_icmp .eq 95, 3, none), (42, .iload_n 1, 1, some [true, true, true, false]), (43, .invokestatic 187, 3, none), (46, .ifCond .eq 27, 3, none), (49, .aload_n 0, 1, none), (50, .getfield 12, 3, none), (53, .iload_n 2, 1, none), (54, .invokevirtual 190, 3, none), (57, .ifCond .eq 16, 3, none), (60, .aload_n 0, 1, none), (61, .getfield 12, 3, none), (64, .getfield 193, 3, none), (67, .iload_n 2, 1, none), (68, .iaload, 1, none), (69, .iconst 4, 1, none), (70, .if_icmp .eq 64, 3, none), (73, .iload_n 1, 1, some [true, true, false, false]), (74, .invokestatic 196, 3, none), (77, .ifCond .eq 15, 3, none), (80, .aload_n 0, 1, none), (81, .getfield 21, 3, none), (84, .getfield 67, 3, none), (87, .bipush 40, 2, none), (89, .if_icmp .eq 45, 3, none), (92, .iload_n 1, 1, some [true, true, false, false]), (93, .bipush 16, 2, none), (95, .if_icmp .ne 15, 3, none), (98, .aload_n 0, 1, none), (99, .getfield 28, 3, none), (102, .getfield 199, 3, none), (105, .bipush 6, 2, none), (107, .if_icmp .eq 27, 3, none), (110, .iload_n 1, 1, some [true, true, false, false]), (111, .bipush 19, 2, none), (113, .if_icmp .eq 9, 3, none), (116, .iload_n 1, 1, none), (117, .bipush 20, 2, none), (119, .if_icmp .ne 19, 3, none), (122, .aload_n 0, 1, some [true, true, false, false]), (123, .getfield 28, 3, none), (126, .getfield 201, 3, none), (129, .bipush 10, 2, none), (131, .if_icmp .ne 7, 3, none), (134, .iconst 1, 1, some [true, true, false, false]), (135, .goto 4, 3, none), (138, .iconst 0, 1, some [true, true, false, false]), (139, .istore_n 3, 1, some [true, true, false, false]), (140, .iload_n 3, 1, none), (141, .ifCond .eq 15, 3, none), (144, .aload_n 0, 1, none), (145, .iconst 3, 1, none), (146, .aload_n 0, 1, none), (147, .getfield 54, 3, none), (150, .invokevirtual 111, 3, none), (153, .goto 29, 3, none), (156, .iload_n 1, 1, some [true, true, false, false]), (157, .invokestatic 187, 3, none), (160, .ifCond .eq 22, 3, none), (163, .aload_n 0, 1, none), (164, .getfield 12, 3, none), (167, .getfield 181, 3, none), (170, .ifCond .ne 12, 3, none), (173, .aload_n 0, 1, none), (174, .iconst 4, 1, none), (175, .aload_n 0, 1, none), (176, .getfield 54, 3, none), (179, .invokevirtual 111, 3, none), (182, .return_, 1, some [false, false, false, false])]
def mi_78 : PI := (4, 4, 0, 2, 5, 1, 22, cd_78)
/-- IllLight$Reader.tell(I)V -/
def cd_79 : List (Nat × Instr × Nat × Option (List Bool)) := [(0, .iload_n 1, 1, none), (1, .invokestatic 196, 3, none), (4, .ifCond .eq 35, 3, none), (7, .aload_n 0, 1, none), (8, .getfield 21, 3, none), (11, .iload_n 1, 1, none), (12, .bipush 12, 2, none), (14, .isub, 1, none), (15, .aload_n 0, 1, none), (16, .getfield 32, 3, none), (19, .iconst 0, 1, none), (20, .iaload, 1, none), (21, .aload_n 0, 1, none), (22, .getfield 32, 3, none), (25, .iconst 1, 1, none), (26, .iaload, 1, none), (27, .aload_n 0, 1, none), (28, .getfield 32, 3, none), (31, .iconst 2, 1, none), (32, .iaload, 1, none), (33, .invokevirtual 204, 3, none), (36, .goto 40, 3, none), (39, .iload_n 1, 1, some [true, true]), (40, .bipush 16, 2, none), (42, .if_icmp .lt 11, 3, none), (45, .aload_n 0, 1, none), (46, .iload_n 1, 1, none), (47, .invokevirtual 208, 3, none), (50, .goto 26, 3, none), (53, .iload_n 1, 1, some [true, true]), (54, .invokestatic 187, 3, none), (57, .ifCond .eq 14, 3, none), (60, .aload_n 0, 1, none), (61, .iload_n 1, 1, none), (62, .bipush 6, 2, none), (64, .isub, 1, none), (65, .invokevirtual 211, 3, none), (68, .goto 8, 3, none), (71, .aload_n 0, 1, some [true, true]), (72, .iload_n 1, 1, none), (73, .invokevirtual 214, 3, none), (76, .return_, 1, some [false, false])]
def mi_79 : PI := (4, 2, 0, 2, 5, 3, 67, cd_79)
/-- IllLight$Reader.tellMan(I)V -/
def cd_80 : List (Nat × Instr × Nat × Option (List Bool)) := [(0, .aload_n 0, 1, none), (1, .getfield 12, 3, none), (4, .iload_n 1, 1, none), (5, .aload_n 0, 1, none), (6, .getfield 32, 3, none), (9, .iconst 0, 1, none), (10, .iaload, 1, none), (11, .iconst 0, 1, none), (12, .invokestatic 217, 3, none), (15, .aload_n 0, 1, none), (16, .getfield 32, 3, none), (19, .iconst 1, 1, none), (20, .iaload, 1, none), (21, .iconst 0, 1, none), (22, .invokestatic 217, 3, none), (25, .invokevirtual 223, 3, none), (28, .iload_n 1, 1, none), (29, .iconst 5, 1, none), (30, .if_icmp .ne 20, 3, none), (33, .aload_n 0, 1, none), (34, .aload_n 0, 1, none), (35, .getfield 80, 3, none), (38, .aload_n 0, 1, none), (39, .getfield 32, 3, none), (42, .iconst 0, 1, none), (43, .iaload, 1, none), (44, .invokestatic 217, 3, none), (47, .putfield 80, 3, none), (50, .return_, 1, some [false, false])]
def mi_80 : PI := (4, 2, 0, 2, 5, 2, 46, cd_80)
/-- IllLight$Reader.tellCoast(I)V -/
def cd_81 : List (Nat × Instr × Nat × Option (List Bool)) := [(0, .iload_n 1, 1, none), (1, .ifCond .ne 30, 3, none), (4, .aload_n 0, 1, none), (5, .getfield 12, 3, none), (8, .aload_n 0, 1, none), (9, .getfield 32, 3, none), (12, .iconst 0, 1, none), (13, .iaload, 1, none), (14, .putfield 227, 3, none), (17, .aload_n 0, 1, none), (18, .getfield 12, 3, none), (21, .aload_n 0, 1, none), (22, .getfield 32, 3, none), (25, .iconst 1, 1, none), (26, .iaload, 1, none), (27, .putfield 230, 3, none), (30, .return_, 1, none), (31, .iload_n 1, 1, some [true, true, false]), (32, .iconst 5, 1, none), (33, .if_icmp .ne 17, 3, none), (36, .aload_n 0, 1, none), (37, .getfield 12, 3, none), (40, .aload_n 0, 1, none), (41, .getfield 32, 3, none), (44, .iconst 0, 1, none), (45, .iaload, 1, none), (46, .putfield 233, 3, none), (49, .return_, 1, none), (50, .bipush 8, 2, some [true, true, false]), (52, .aload_n 0, 1, none), (53, .getfield 32, 3, none), (56, .iconst 1, 1, none), (57, .iaload, 1, none), (58, .imul, 1, none), (59, .aload_n 0, 1, none), (60, .getfield 32, 3, none), (63, .iconst 0, 1, none), (64, .iaload, 1, none), (65, .iadd, 1, none), (66, .istore_n 2, 1, none), (67, .aload_n 0, 1, none), (68, .aload_n 0, 1, none), (69, .getfield 74, 3, none), (72, .aload_n 0, 1, none), (73, .getfield 32, 3, none), (76, .iconst 0, 1, none), (77, .iaload, 1, none), (78, .invokestatic 217, 3, none), (81, .putfield 74, 3, none), (84, .aload_n 0, 1, none), (85, .aload_n 0, 1, none), (86, .getfield 77, 3, none), (89, .aload_n 0, 1, none), (90, .getfield 32, 3, none), (93, .iconst 1, 1, none), (94, .iaload, 1, none), (95, .invokestatic 217, 3, none), (98, .putfield 77, 3, none), (101, .iload_n 1, 1, none), (102, .iconst 1, 1, none), (103, .if_icmp .ne 14, 3, none), (106, .aload_n 0, 1, none), (107, .getfield 12, 3, none), (110, .iload_n 2, 1, none), (111, .putfield 235, 3, none), (114, .goto 68, 3, none), (117, .iload_n 1, 1, some [true, true, true]), (118, .iconst 2, 1, none), (119, .if_icmp .ne 21, 3, none), (122, .aload_n 0, 1, none), (123, .getfield 12, 3, none), (126, .dup, 1, none), (127, .getfield 237, 3, none), (130, .lconst 1, 1, none), (131, .iload_n 2, 1, none), (132, .lshl, 1, none), (133, .lor, 1, none), (134, .putfield 237, 3, none), (137, .goto 45, 3, none), (140, .iload_n 1, 1, some [true, true, true]), (141, .iconst 3, 1, none), (142, .if_icmp .ne 20, 3, none), (145, .aload_n 0, 1, none), (146, .getfield 12, 3, none), (149, .iload_n 2, 1, none), (150, .aload_n 0, 1, none), (151, .getfield 32, 3, none), (154, .iconst 2, 1, none), (155, .iaload, 1, none), (156, .invokevirtual 241, 3, none), (159, .goto 23, 3, none), (162, .aload_n 0, 1, some [true, false, true]), (163, .getfield 12, 3, none), (166, .iload_n 2, 1, none), (167, .aload_n 0, 1, none), (168, .getfield 32, 3, none), (171, .iconst 2, 1, none), (172, .iaload, 1, none), (173, .aload_n 0, 1, none), (174, .getfield 32, 3, none), (177, .iconst 3, 1, none), (178, .iaload, 1, none), (179, .invokevirtual 244, 3, none), (182, .return_, 1, some [false, false, false])]
def mi_81 : PI := (4, 3, 0, 2, 5, 1, 40, cd_81)
/-- IllLight$Reader.tellLog(I)V -/
def cd_82 : List (Nat × Instr × Nat × Option (List Bool)) := [(0, .iload_n 1, 1, none), (1, .bipush 16, 2, none), (3, .if_icmp .ne 19, 3, none), (6, .aload_n 0, 1, none), (7, .getfield 28, 3, none), (10, .aload_n 0, 1, none), (11, .getfield 32, 3, none), (14, .iconst 0, 1, none), (15, .iaload, 1, none), (16, .invokevirtual 247, 3, none), (19, .goto 71, 3, none), (22, .iload_n 1, 1, some [true, true]), (23, .bipush 17, 2, none), (25, .if_icmp .ne 19, 3, none), (28, .aload_n 0, 1, none), (29, .getfield 28, 3, none), (32, .aload_n 0, 1, none), (33, .getfield 32, 3, none), (36, .iconst 0, 1, none), (37, .iaload, 1, none), (38, .putfield 249, 3, none), (41, .goto 49, 3, none), (44, .iload_n 1, 1, some [true, true]), (45, .bipush 18, 2, none), (47, .if_icmp .ne 19, 3, none), (50, .aload_n 0, 1, none), (51, .getfield 28, 3, none), (54, .aload_n 0, 1, none), (55, .getfield 32, 3, none), (58, .iconst 0, 1, none), (59, .iaload, 1, none), (60, .putfield 250, 3, none), (63, .goto 27, 3, none), (66, .aload_n 0, 1, some [true, true]), (67, .getfield 28, 3, none), (70, .iload_n 1, 1, none), (71, .bipush 19, 2, none), (73, .if_icmp .ne 7, 3, none), (76, .iconst 1, 1, none), (77, .goto 4, 3, none), (80, .iconst 0, 1, some [true, false]), (81, .aload_n 0, 1, some [true, false]), (82, .getfield 32, 3, none), (85, .iconst 0, 1, none), (86, .iaload, 1, none), (87, .invokevirtual 252, 3, none), (90, .return_, 1, some [false, false])]
def mi_82 : PI := (4, 2, 0, 2, 5, 1, 22, cd_82)
/-- IllLight$Reader.lookForWhatIsNotThere(I)V -/
def cd_83 : List (Nat × Instr × Nat × Option (List Bool)) := [(0, .aload_n 0, 1, none), (1, .getfield 74, 3, none), (4, .aload_n 0, 1, none), (5, .getfield 12, 3, none), (8, .getfield 227, 3, none), (11, .if_icmp .ge 17, 3, none), (14, .aload_n 0, 1, none), (15, .getfield 77, 3, none), (18, .aload_n 0, 1, none), (19, .getfield 12, 3, none), (22, .getfield 230, 3, none), (25, .if_icmp .lt 9, 3, none), (28, .aload_n 0, 1, some [true, true]), (29, .iconst 5, 1, none), (30, .iload_n 1, 1, none), (31, .invokevirtual 111, 3, none), (34, .aload_n 0, 1, some [true, true]), (35, .getfield 80, 3, none), (38, .aload_n 0, 1, none), (39, .getfield 12, 3, none), (42, .getfield 181, 3, none), (45, .if_icmp .lt 10, 3, none), (48, .aload_n 0, 1, none), (49, .bipush 6, 2, none), (51, .iload_n 1, 1, none), (52, .invokevirtual 111, 3, none), (55, .return_, 1, some [false, false])]
def mi_83 : PI := (4, 2, 0, 2, 5, 1, 22, cd_83)
/-- IllLight$Rows.prize(LIllLight$Coast;I)I -/
def cd_84 : List (Nat × Instr × Nat × Option (List Bool)) := [(0, .aload_n 0, 1, none), (1, .invokevirtual 9, 3, none), (4, .aload_n 0, 1, none), (5, .getfield 15, 3, none), (8, .ldc2_w 19, 3, none), (11, .lxor, 1, none), (12, .land, 1, none), (13, .lstore_n 2, 1, none), (14, .lload_n 2, 1, none), (15, .bipush 8, 2, none), (17, .iload_n 1, 1, none), (18, .imul, 1, none), (19, .lushr, 1, none), (20, .ldc2_w 21, 3, none), (23, .land, 1, none), (24, .invokestatic 23, 3, none), (27, .ireturn, 1, none)]
def mi_84 : PI := (5, 4, 1, 2, 0, 1, 25, cd_84)
/-- IllLight$Rows.pirateWins(LIllLight$Coast;III)I -/
def cd_85 : List (Nat × Instr × Nat × Option (List Bool)) := [(0, .iload_n 2, 1, none), (1, .iload_n 3, 1, none), (2, .isub, 1, none), (3, .invokestatic 29, 3, none), (6, .iload_n 1, 1, none), (7, .if_icmp .le 11, 3, none), (10, .aload_n 0, 1, none), (11, .iload_n 2, 1, none), (12, .invokestatic 35, 3, none), (15, .goto 4, 3, none), (18, .iconst 0, 1, some [false, false, false, false]), (19, .ireturn, 1, some [false, false, false, false])]
def mi_85 : PI := (5, 4, 1, 4, 0, 2, 48, cd_85)
/-- IllLight$Rows.guardWins(LIllLight$Coast;III)I -/
def cd_86 : List (Nat × Instr × Nat × Option (List Bool)) := [(0, .iload_n 2, 1, none), (1, .iload_n 3, 1, none), (2, .isub, 1, none), (3, .invokestatic 29, 3, none), (6, .iload_n 1, 1, none), (7, .if_icmp .le 7, 3, none), (10, .iconst 0, 1, none), (11, .goto 8, 3, none), (14, .aload_n 0, 1, some [true, false, true, false]), (15, .iload_n 2, 1, none), (16, .invokestatic 35, 3, none), (19, .ireturn, 1, some [false, false, false, false])]
def mi_86 : PI := (5, 4, 1, 4, 0, 2, 48, cd_86)
/-- IllLight$Rows.isRest(LIllLight$Coast;III)Z -/
def cd_87 : List (Nat × Instr × Nat × Option (List Bool)) := [(0, .aload_n 0, 1, none), (1, .iload_n 1, 1, none), (2, .iload_n 2, 1, none), (3, .iload_n 3, 1, none), (4, .invokestatic 41, 3, none), (7, .istore 4, 2, none), (9, .aload_n 0, 1, none), (10, .iload_n 1, 1, none), (11, .iload_n 2, 1, none), (12, .iload_n 3, 1, none), (13, .invokestatic 45, 3, none), (16, .istore 5, 2, none), (18, .iconst 0, 1, none), (19, .istore 6, 2, none), (21, .iload 6, 2, some [true, true, true, true, true, true, true]), (23, .aload_n 0, 1, none), (24, .getfield 48, 3, none), (27, .if_icmp .ge 37, 3, none), (30, .aload_n 0, 1, none), (31, .iload_n 1, 1, none), (32, .iload 6, 2, none), (34, .iload_n 3, 1, none), (35, .invokestatic 41, 3, none), (38, .iload 4, 2, none), (40, .if_icmp .gt 16, 3, none), (43, .aload_n 0, 1, none), (44, .iload_n 1, 1, none), (45, .iload_n 2, 1, none), (46, .iload 6, 2, none), (48, .invokestatic 45, 3, none), (51, .iload 5, 2, none), (53, .if_icmp .le 5, 3, none), (56, .iconst 0, 1, some [false, false, false, false, false, false, false]), (57, .ireturn, 1, none), (58, .iinc 6 1, 3, some [true, true, true, true, true, true, true]), (61, .goto (-40), 3, none), (64, .iconst 1, 1, some [false, false, false, false, false, false, false]), (65, .ireturn, 1, none)]
def mi_87 : PI := (5, 7, 2, 4, 0, 3, 71, cd_87)
/-- IllLight$Rows.rests(LIllLight$Coast;I)I -/
def cd_88 : List (Nat × Instr × Nat × Option (List Bool)) := [(0, .iconst 0, 1, none), (1, .istore_n 2, 1, none), (2, .iconst 0, 1, none), (3, .istore_n 3, 1, none), (4, .iload_n 3, 1, some [true, true, true, true]), (5, .bipush 8, 2, none), (7, .aload_n 0, 1, none), (8, .getfield 48, 3, none), (11, .imul, 1, none), (12, .if_icmp .ge 39, 3, none), (15, .iload_n 3, 1, none), (16, .bipush 8, 2, none), (18, .irem, 1, none), (19, .aload_n 0, 1, none), (20, .getfield 48, 3, none), (23, .if_icmp .ge 22, 3, none), (26, .aload_n 0, 1, none), (27, .iload_n 1, 1, none), (28, .iload_n 3, 1, none), (29, .bipush 8, 2, none), (31, .idiv, 1, none), (32, .iload_n 3, 1, none), (33, .bipush 8, 2, none), (35, .irem, 1, none), (36, .invokestatic 52, 3, none), (39, .ifCond .eq 6, 3, none), (42, .iinc 2 1, 3, none), (45, .iinc 3 1, 3, some [true, true, true, true]), (48, .goto (-44), 3, none), (51, .iload_n 2, 1, some [false, false, true, false]), (52, .ireturn, 1, none)]
def mi_88 : PI := (5, 4, 1, 2, 0, 4, 97, cd_88)
/-- IllLight$Rows.restAt(LIllLight$Coast;II)I -/
def cd_89 : List (Nat × Instr × Nat × Option (List Bool)) := [(0, .iconst 0, 1, none), (1, .istore_n 3, 1, none), (2, .iconst 0, 1, none), (3, .istore 4, 2, none), (5, .iload 4, 2, some [true, true, true, true, true]), (7, .bipush 8, 2, none), (9, .aload_n 0, 1, none), (10, .getfield 48, 3, none), (13, .imul, 1, none), (14, .if_icmp .ge 50, 3, none), (17, .iload 4, 2, none), (19, .bipush 8, 2, none), (21, .irem, 1, none), (22, .aload_n 0, 1, none), (23, .getfield 48, 3, none), (26, .if_icmp .ge 32, 3, none), (29, .aload_n 0, 1, none), (30, .iload_n 1, 1, none), (31, .iload 4, 2, none), (33, .bipush 8, 2, none), (35, .idiv, 1, none), (36, .iload 4, 2, none), (38, .bipush 8, 2, none), (40, .irem, 1, none), (41, .invokestatic 52, 3, none), (44, .ifCond .eq 14, 3, none), (47, .iload_n 3, 1, none), (48, .iload_n 2, 1, none), (49, .if_icmp .ne 6, 3, none), (52, .iload 4, 2, none), (54, .ireturn, 1, none), (55, .iinc 3 1, 3, some [true, true, true, true, true]), (58, .iinc 4 1, 3, some [true, true, true, true, true]), (61, .goto (-56), 3, none), (64, .iconst (-1), 1, some [false, false, false, false, false]), (65, .ireturn, 1, none)]
def mi_89 : PI := (5, 5, 1, 3, 0, 4, 97, cd_89)
/-- IllLight$Rows.safest(LIllLight$Coast;I)I -/
def cd_90 : List (Nat × Instr × Nat × Option (List Bool)) := [(0, .iconst 0, 1, none), (1, .istore_n 2, 1, none), (2, .iconst 1, 1, none), (3, .istore_n 3, 1, none), (4, .iload_n 3, 1, some [true, true, true, true]), (5, .aload_n 0, 1, none), (6, .getfield 48, 3, none), (9, .if_icmp .ge 26, 3, none), (12, .aload_n 0, 1, none), (13, .iload_n 1, 1, none), (14, .iload_n 3, 1, none), (15, .invokestatic 56, 3, none), (18, .aload_n 0, 1, none), (19, .iload_n 1, 1, none), (20, .iload_n 2, 1, none), (21, .invokestatic 56, 3, none), (24, .if_icmp .le 5, 3, none), (27, .iload_n 3, 1, none), (28, .istore_n 2, 1, none), (29, .iinc 3 1, 3, some [true, true, true, true]), (32, .goto (-28), 3, none), (35, .iload_n 2, 1, some [false, false, true, false]), (36, .ireturn, 1, none)]
def mi_90 : PI := (5, 4, 1, 2, 0, 4, 95, cd_90)
/-- IllLight$Rows.leastWon(LIllLight$Coast;II)I -/
def cd_91 : List (Nat × Instr × Nat × Option (List Bool)) := [(0, .bipush 8, 2, none), (2, .istore_n 3, 1, none), (3, .iconst 0, 1, none), (4, .istore 4, 2, none), (6, .iload 4, 2, some [true, true, true, true, true]), (8, .aload_n 0, 1, none), (9, .getfield 48, 3, none), (12, .if_icmp .ge 22, 3, none), (15, .iload_n 3, 1, none), (16, .aload_n 0, 1, none), (17, .iload_n 1, 1, none), (18, .iload_n 2, 1, none), (19, .iload 4, 2, none), (21, .invokestatic 41, 3, none), (24, .invokestatic 60, 3, none), (27, .istore_n 3, 1, none), (28, .iinc 4 1, 3, none), (31, .goto (-25), 3, none), (34, .iload_n 3, 1, some [false, false, false, true, false]), (35, .ireturn, 1, none)]
def mi_91 : PI := (5, 5, 1, 3, 0, 3, 71, cd_91)
/-- IllLight$Sea.spread(JJ)J -/
def cd_92 : List (Nat × Instr × Nat × Option (List Bool)) := [(0, .lload_n 0, 1, none), (1, .ldc2_w 15, 3, none), (4, .land, 1, none), (5, .iconst 1, 1, none), (6, .lshl, 1, none), (7, .lload_n 0, 1, none), (8, .ldc2_w 17, 3, none), (11, .land, 1, none), (12, .iconst 1, 1, none), (13, .lushr, 1, none), (14, .lor, 1, none), (15, .lstore 4, 2, none), (17, .lload_n 0, 1, none), (18, .lload 4, 2, none), (20, .lor, 1, none), (21, .lload_n 0, 1, none), (22, .bipush 8, 2, none), (24, .lshl, 1, none), (25, .lor, 1, none), (26, .lload_n 0, 1, none), (27, .bipush 8, 2, none), (29, .lushr, 1, none), (30, .lor, 1, none), (31, .lload_n 2, 1, none), (32, .land, 1, none), (33, .lreturn, 1, none)]
def mi_92 : PI := (6, 6, 3, 2, 0, 0, 0, cd_92)
/-- IllLight$Sea.around(IIJ)J -/
def cd_93 : List (Nat × Instr × Nat × Option (List Bool)) := [(0, .lconst 1, 1, none), (1, .iload_n 0, 1, none), (2, .lshl, 1, none), (3, .lstore 4, 2, none), (5, .iconst 0, 1, none), (6, .istore 6, 2, none), (8, .iload 6, 2, some [false, true, true, false, true, false, true]), (10, .iload_n 1, 1, none), (11, .if_icmp .ge 17, 3, none), (14, .lload 4, 2, none), (16, .lload_n 2, 1, none), (17, .invokestatic 19, 3, none), (20, .lstore 4, 2, none), (22, .iinc 6 1, 3, none), (25, .goto (-17), 3, none), (28, .lload 4, 2, some [false, false, false, false, true, false, false]), (30, .lreturn, 1, none)]
def mi_93 : PI := (6, 7, 3, 3, 0, 1, 25, cd_93)
/-- IllLight$Sea.chart(LIllLight$Coast;II)V -/
def cd_94 : List (Nat × Instr × Nat × Option (List Bool)) := [(0, .aload_n 0, 1, none), (1, .aload_n 1, 1, none), (2, .invokevirtual 23, 3, none), (5, .putfield 29, 3, none), (8, .aload_n 0, 1, none), (9, .aload_n 0, 1, none), (10, .getfield 29, 3, none), (13, .aload_n 1, 1, none), (14, .invokevirtual 32, 3, none), (17, .ldc2_w 35, 3, none), (20, .lxor, 1, none), (21, .land, 1, none), (22, .putfield 37, 3, none), (25, .aload_n 0, 1, none), (26, .aload_n 0, 1, none), (27, .getfield 29, 3, none), (30, .aload_n 1, 1, none), (31, .getfield 40, 3, none), (34, .ldc2_w 35, 3, none), (37, .lxor, 1, none), (38, .land, 1, none), (39, .putfield 43, 3, none), (42, .aload_n 0, 1, none), (43, .aload_n 1, 1, none), (44, .iload_n 2, 1, none), (45, .invokevirtual 46, 3, none), (48, .ifCond .eq 14, 3, none), (51, .lconst 1, 1, none), (52, .aload_n 1, 1, none), (53, .getfield 50, 3, none), (56, .iload_n 2, 1, none), (57, .iaload, 1, none), (58, .lshl, 1, none), (59, .goto 4, 3, none), (62, .lconst 0, 1, some [true, false, false, true]), (63, .putfield 54, 3, some [true, false, false, true]), (66, .aload_n 0, 1, none), (67, .lconst 1, 1, none), (68, .iload_n 3, 1, none), (69, .lshl, 1, none), (70, .putfield 57, 3, none), (73, .return_, 1, none)]
def mi_94 : PI := (6, 4, 0, 4, 6, 3, 76, cd_94)
/-- IllLight$Sea.afterHour(JII)J -/
def cd_95 : List (Nat × Instr × Nat × Option (List Bool)) := [(0, .iload_n 3, 1, none), (1, .iload 4, 2, none), (3, .bipush 24, 2, none), (5, .irem, 1, none), (6, .ishr, 1, none), (7, .iconst 1, 1, none), (8, .iand, 1, none), (9, .ifCond .eq 7, 3, none), (12, .iconst 1, 1, none), (13, .goto 4, 3, none), (16, .iconst 0, 1, some [true, true, false, false, false, false]), (17, .istore 5, 2, some [true, true, false, false, false, false]), (19, .lload_n 1, 1, none), (20, .aload_n 0, 1, none), (21, .getfield 29, 3, none), (24, .invokestatic 19, 3, none), (27, .iload 5, 2, none), (29, .ifCond .eq 10, 3, none), (32, .aload_n 0, 1, none), (33, .getfield 37, 3, none), (36, .goto 7, 3, none), (39, .aload_n 0, 1, some [true, false, false, false, false, false]), (40, .getfield 43, 3, none), (43, .land, 1, some [false, false, false, false, false, false]), (44, .lreturn, 1, none)]
def mi_95 : PI := (6, 6, 3, 4, 6, 1, 25, cd_95)
/-- IllLight$Sea.fewest(III)I -/
def cd_96 : List (Nat × Instr × Nat × Option (List Bool)) := [(0, .aload_n 0, 1, none), (1, .getfield 54, 3, none), (4, .lstore 4, 2, none), (6, .iconst 0, 1, none), (7, .istore 6, 2, none), (9, .iload 6, 2, some [true, true, true, true, true, false, true]), (11, .iload_n 3, 1, none), (12, .if_icmp .gt 44, 3, none), (15, .lload 4, 2, none), (17, .lconst 0, 1, none), (18, .lcmp, 1, none), (19, .ifCond .eq 37, 3, none), (22, .lload 4, 2, none), (24, .aload_n 0, 1, none), (25, .getfield 57, 3, none), (28, .land, 1, none), (29, .lconst 0, 1, none), (30, .lcmp, 1, none), (31, .ifCond .eq 6, 3, none), (34, .iload 6, 2, none), (36, .ireturn, 1, none), (37, .aload_n 0, 1, some [true, true, true, true, true, false, true]), (38, .lload 4, 2, none), (40, .iload_n 1, 1, none), (41, .iload_n 2, 1, none), (42, .iload 6, 2, none), (44, .iadd, 1, none), (45, .invokevirtual 60, 3, none), (48, .lstore 4, 2, none), (50, .iinc 6 1, 3, none), (53, .goto (-44), 3, none), (56, .iconst (-1), 1, some [false, false, false, false, false, false, false]), (57, .ireturn, 1, none)]
def mi_96 : PI := (6, 7, 1, 4, 6, 2, 50, cd_96)
/-- IllLight$Sea.comes(III)Z -/
def cd_97 : List (Nat × Instr × Nat × Option (List Bool)) := [(0, .aload_n 0, 1, none), (1, .iload_n 1, 1, none), (2, .iload_n 2, 1, none), (3, .iload_n 3, 1, none), (4, .invokevirtual 64, 3, none), (7, .iconst (-1), 1, none), (8, .if_icmp .eq 7, 3, none), (11, .iconst 1, 1, none), (12, .goto 4, 3, none), (15, .iconst 0, 1, some [false, false, false, false]), (16, .ireturn, 1, some [false, false, false, false])]
def mi_97 : PI := (6, 4, 2, 4, 6, 3, 76, cd_97)
/-- IllLight$Sea.reached(II)I -/
def cd_98 : List (Nat × Instr × Nat × Option (List Bool)) := [(0, .aload_n 0, 1, none), (1, .getfield 54, 3, none), (4, .lstore_n 3, 1, none), (5, .aload_n 0, 1, none), (6, .getfield 54, 3, none), (9, .lstore 5, 2, none), (11, .iconst 0, 1, none), (12, .istore 7, 2, none), (14, .iload 7, 2, some [true, true, true, true, false, true, false, true]), (16, .iload_n 2, 1, none), (17, .if_icmp .ge 30, 3, none), (20, .lload_n 3, 1, none), (21, .lconst 0, 1, none), (22, .lcmp, 1, none), (23, .ifCond .eq 24, 3, none), (26, .aload_n 0, 1, none), (27, .lload_n 3, 1, none), (28, .iload_n 1, 1, none), (29, .iload 7, 2, none), (31, .invokevirtual 60, 3, none), (34, .lstore_n 3, 1, none), (35, .lload 5, 2, none), (37, .lload_n 3, 1, none), (38, .lor, 1, none), (39, .lstore 5, 2, none), (41, .iinc 7 1, 3, none), (44, .goto (-30), 3, none), (47, .lload 5, 2, some [false, false, false, false, false, true, false, false]), (49, .invokestatic 68, 3, none), (52, .ireturn, 1, none)]
def mi_98 : PI := (6, 8, 1, 3, 6, 2, 50, cd_98)
/-- IllLight$Sea.thereAndBack(II)I -/
def cd_99 : List (Nat × Instr × Nat × Option (List Bool)) := [(0, .aload_n 0, 1, none), (1, .getfield 54, 3, none), (4, .lstore_n 3, 1, none), (5, .aload_n 0, 1, none), (6, .getfield 54, 3, none), (9, .aload_n 0, 1, none), (10, .getfield 57, 3, none), (13, .land, 1, none), (14, .lstore 5, 2, none), (16, .iconst 0, 1, none), (17, .istore 7, 2, none), (19, .iload 7, 2, some [true, true, true, true, false, true, false, true]), (21, .iload_n 2, 1, none), (22, .if_icmp .gt 57, 3, none), (25, .lload_n 3, 1, none), (26, .lconst 0, 1, none), (27, .lcmp, 1, none), (28, .ifCond .eq 51, 3, none), (31, .lload 5, 2, none), (33, .aload_n 0, 1, none), (34, .getfield 54, 3, none), (37, .land, 1, none), (38, .lconst 0, 1, none), (39, .lcmp, 1, none), (40, .ifCond .eq 6, 3, none), (43, .iload 7, 2, none), (45, .ireturn, 1, none), (46, .aload_n 0, 1, some [true, true, true, true, false, true, false, true]), (47, .lload_n 3, 1, none), (48, .iload_n 1, 1, none), (49, .iload 7, 2, none), (51, .invokevirtual 60, 3, none), (54, .lstore_n 3, 1, none), (55, .aload_n 0, 1, none), (56, .lload 5, 2, none), (58, .iload_n 1, 1, none), (59, .iload 7, 2, none), (61, .invokevirtual 60, 3, none), (64, .lload_n 3, 1, none), (65, .aload_n 0, 1, none), (66, .getfield 57, 3, none), (69, .land, 1, none), (70, .lor, 1, none), (71, .lstore 5, 2, none), (73, .iinc 7 1, 3, none), (76, .goto (-57), 3, none), (79, .iconst (-1), 1, some [false, false, false, false, false, false, false, false]), (80, .ireturn, 1, none)]
def mi_99 : PI := (6, 8, 1, 3, 6, 2, 50, cd_99)
/-- IllLight$Sea.look(LIllLight$Coast;I)V -/
def cd_100 : List (Nat × Instr × Nat × Option (List Bool)) := [(0, .aload_n 0, 1, none), (1, .aload_n 1, 1, none), (2, .invokevirtual 23, 3, none), (5, .putfield 29, 3, none), (8, .aload_n 0, 1, none), (9, .aload_n 1, 1, none), (10, .invokevirtual 74, 3, none), (13, .aload_n 0, 1, none), (14, .getfield 9, 3, none), (17, .arraylength, 1, none), (18, .invokestatic 78, 3, none), (21, .putfield 84, 3, none), (24, .iconst 0, 1, none), (25, .istore_n 3, 1, none), (26, .iload_n 3, 1, some [true, true, true, true]), (27, .aload_n 0, 1, none), (28, .getfield 84, 3, none), (31, .if_icmp .ge 28, 3, none), (34, .aload_n 0, 1, none), (35, .getfield 9, 3, none), (38, .iload_n 3, 1, none), (39, .aload_n 1, 1, none), (40, .iload_n 3, 1, none), (41, .invokevirtual 87, 3, none), (44, .iload_n 2, 1, none), (45, .aload_n 0, 1, none), (46, .getfield 29, 3, none), (49, .invokestatic 91, 3, none), (52, .lastore, 1, none), (53, .iinc 3 1, 3, none), (56, .goto (-30), 3, none), (59, .return_, 1, some [false, false, false, false])]
def mi_100 : PI := (6, 4, 0, 3, 6, 2, 51, cd_100)
/-- IllLight$Sea.bestFor(J)I -/
def cd_101 : List (Nat × Instr × Nat × Option (List Bool)) := [(0, .iconst 0, 1, none), (1, .istore_n 3, 1, none), (2, .iconst 1, 1, none), (3, .istore 4, 2, none), (5, .iload 4, 2, some [true, true, false, true, true]), (7, .aload_n 0, 1, none), (8, .getfield 84, 3, none), (11, .if_icmp .ge 38, 3, none), (14, .aload_n 0, 1, none), (15, .getfield 9, 3, none), (18, .iload 4, 2, none), (20, .laload, 1, none), (21, .lload_n 1, 1, none), (22, .land, 1, none), (23, .invokestatic 68, 3, none), (26, .aload_n 0, 1, none), (27, .getfield 9, 3, none), (30, .iload_n 3, 1, none), (31, .laload, 1, none), (32, .lload_n 1, 1, none), (33, .land, 1, none), (34, .invokestatic 68, 3, none), (37, .if_icmp .le 6, 3, none), (40, .iload 4, 2, none), (42, .istore_n 3, 1, none), (43, .iinc 4 1, 3, some [true, true, false, true, true]), (46, .goto (-41), 3, none), (49, .iload_n 3, 1, some [false, false, false, true, false]), (50, .ireturn, 1, none)]
def mi_101 : PI := (6, 5, 1, 2, 6, 1, 21, cd_101)
/-- IllLight$Sea.bestPair()I -/
def cd_102 : List (Nat × Instr × Nat × Option (List Bool)) := [(0, .iconst 1, 1, none), (1, .istore_n 1, 1, none), (2, .iconst 0, 1, none), (3, .istore_n 2, 1, none), (4, .iconst 0, 1, none), (5, .istore_n 3, 1, none), (6, .iload_n 3, 1, some [true, true, true, true, false, false]), (7, .aload_n 0, 1, none), (8, .getfield 84, 3, none), (11, .if_icmp .ge 65, 3, none), (14, .iload_n 3, 1, none), (15, .iconst 1, 1, none), (16, .iadd, 1, none), (17, .istore 4, 2, none), (19, .iload 4, 2, some [true, true, true, true, true, false]), (21, .aload_n 0, 1, none), (22, .getfield 84, 3, none), (25, .if_icmp .ge 45, 3, none), (28, .aload_n 0, 1, none), (29, .getfield 9, 3, none), (32, .iload_n 3, 1, none), (33, .laload, 1, none), (34, .aload_n 0, 1, none), (35, .getfield 9, 3, none), (38, .iload 4, 2, none), (40, .laload, 1, none), (41, .lor, 1, none), (42, .invokestatic 68, 3, none), (45, .istore 5, 2, none), (47, .iload 5, 2, none), (49, .iload_n 2, 1, none), (50, .if_icmp .le 14, 3, none), (53, .iload 5, 2, none), (55, .istore_n 2, 1, none), (56, .bipush 64, 2, none), (58, .iload_n 3, 1, none), (59, .imul, 1, none), (60, .iload 4, 2, none), (62, .iadd, 1, none), (63, .istore_n 1, 1, none), (64, .iinc 4 1, 3, some [true, true, true, true, true, false]), (67, .goto (-48), 3, none), (70, .iinc 3 1, 3, some [true, true, true, true, false, false]), (73, .goto (-67), 3, none), (76, .iload_n 1, 1, some [false, true, false, false, false, false]), (77, .ireturn, 1, none)]
def mi_102 : PI := (6, 6, 1, 1, 6, 1, 21, cd_102)
/-- IllLight$Sea.seenByBoth(I)I -/
def cd_103 : List (Nat × Instr × Nat × Option (List Bool)) := [(0, .iload_n 1, 1, none), (1, .bipush 64, 2, none), (3, .idiv, 1, none), (4, .istore_n 2, 1, none), (5, .iload_n 1, 1, none), (6, .bipush 64, 2, none), (8, .irem, 1, none), (9, .istore_n 3, 1, none), (10, .iload_n 2, 1, none), (11, .ifCond .lt 23, 3, none), (14, .iload_n 3, 1, none), (15, .ifCond .lt 19, 3, none), (18, .iload_n 2, 1, none), (19, .aload_n 0, 1, none), (20, .getfield 84, 3, none), (23, .if_icmp .ge 11, 3, none), (26, .iload_n 3, 1, none), (27, .aload_n 0, 1, none), (28, .getfield 84, 3, none), (31, .if_icmp .lt 7, 3, none), (34, .iconst 0, 1, some [false, false, false, false]), (35, .goto 19, 3, none), (38, .aload_n 0, 1, some [true, false, true, true]), (39, .getfield 9, 3, none), (42, .iload_n 2, 1, none), (43, .laload, 1, none), (44, .aload_n 0, 1, none), (45, .getfield 9, 3, none), (48, .iload_n 3, 1, none), (49, .laload, 1, none), (50, .lor, 1, none), (51, .invokestatic 68, 3, none), (54, .ireturn, 1, some [false, false, false, false])]
def mi_103 : PI := (6, 4, 1, 2, 6, 1, 21, cd_103)
/-- IllLight$Told.held(I)I -/
def cd_104 : List (Nat × Instr × Nat × Option (List Bool)) := [(0, .iload_n 1, 1, none), (1, .ifCond .lt 12, 3, none), (4, .iload_n 1, 1, none), (5, .aload_n 0, 1, none), (6, .getfield 19, 3, none), (9, .arraylength, 1, none), (10, .if_icmp .lt 8, 3, none), (13, .bipush (-2), 2, some [false, false]), (15, .goto 9, 3, none), (18, .aload_n 0, 1, some [true, true]), (19, .getfield 19, 3, none), (22, .iload_n 1, 1, none), (23, .iaload, 1, none), (24, .ireturn, 1, some [false, false])]
def mi_104 : PI := (7, 2, 1, 2, 7, 0, 0, cd_104)
/-- IllLight$Told.put(I)V -/
def cd_105 : List (Nat × Instr × Nat × Option (List Bool)) := [(0, .bipush 24, 2, none), (2, .istore_n 2, 1, none), (3, .iload_n 2, 1, some [true, true, true]), (4, .ifCond .lt 45, 3, none), (7, .aload_n 0, 1, none), (8, .getfield 43, 3, none), (11, .sipush 600, 3, none), (14, .if_icmp .ge 35, 3, none), (17, .aload_n 0, 1, none), (18, .getfield 9, 3, none), (21, .aload_n 0, 1, none), (22, .getfield 43, 3, none), (25, .iload_n 1, 1, none), (26, .iload_n 2, 1, none), (27, .iushr, 1, none), (28, .sipush 255, 3, none), (31, .iand, 1, none), (32, .iastore, 1, none), (33, .aload_n 0, 1, none), (34, .dup, 1, none), (35, .getfield 43, 3, none), (38, .iconst 1, 1, none), (39, .iadd, 1, none), (40, .putfield 43, 3, none), (43, .iinc 2 (-8), 3, none), (46, .goto (-43), 3, none), (49, .return_, 1, some [false, false, false])]
def mi_105 : PI := (7, 3, 0, 2, 7, 0, 0, cd_105)
/-- IllLight$Told.take(LIllLight$Reader;II)V -/
def cd_106 : List (Nat × Instr × Nat × Option (List Bool)) := [(0, .iload_n 3, 1, none), (1, .ifCond .lt 18, 3, none), (4, .iload_n 3, 1, none), (5, .iconst 2, 1, none), (6, .if_icmp .ge 13, 3, none), (9, .aload_n 0, 1, none), (10, .iload_n 2, 1, none), (11, .invokevirtual 46, 3, none), (14, .bipush (-2), 2, none), (16, .if_icmp .ne 4, 3, none), (19, .return_, 1, some [false, false, false, false]), (20, .iload_n 2, 1, some [true, true, true, true]), (21, .ifCond .ne 19, 3, none), (24, .aload_n 0, 1, none), (25, .getfield 24, 3, none), (28, .iload_n 3, 1, none), (29, .aaload, 1, none), (30, .aload_n 1, 1, none), (31, .getfield 49, 3, none), (34, .invokevirtual 55, 3, none), (37, .goto 37, 3, none), (40, .iload_n 2, 1, some [true, true, true, true]), (41, .iconst 1, 1, none), (42, .if_icmp .ne 19, 3, none), (45, .aload_n 0, 1, none), (46, .getfield 30, 3, none), (49, .iload_n 3, 1, none), (50, .aaload, 1, none), (51, .aload_n 1, 1, none), (52, .getfield 59, 3, none), (55, .invokevirtual 63, 3, none), (58, .goto 16, 3, none), (61, .aload_n 0, 1, some [true, true, true, true]), (62, .getfield 36, 3, none), (65, .iload_n 3, 1, none), (66, .aaload, 1, none), (67, .aload_n 1, 1, none), (68, .getfield 66, 3, none), (71, .invokevirtual 70, 3, none), (74, .aload_n 0, 1, some [true, false, true, true]), (75, .getfield 19, 3, none), (78, .iload_n 2, 1, none), (79, .aload_n 0, 1, none), (80, .getfield 19, 3, none), (83, .iload_n 2, 1, none), (84, .iaload, 1, none), (85, .iload_n 3, 1, none), (86, .iconst 1, 1, none), (87, .iadd, 1, none), (88, .invokestatic 73, 3, none), (91, .iastore, 1, none), (92, .return_, 1, none)]
def mi_106 : PI := (7, 4, 0, 4, 7, 2, 61, cd_106)
/-- IllLight$Told.copyFrom(LIllLight$Told;)V -/
def cd_107 : List (Nat × Instr × Nat × Option (List Bool)) := [(0, .aload_n 1, 1, none), (1, .getfield 9, 3, none), (4, .iconst 0, 1, none), (5, .aload_n 0, 1, none), (6, .getfield 9, 3, none), (9, .iconst 0, 1, none), (10, .sipush 600, 3, none), (13, .invokestatic 79, 3, none), (16, .aload_n 0, 1, none), (17, .aload_n 1, 1, none), (18, .getfield 43, 3, none), (21, .putfield 43, 3, none), (24, .aload_n 0, 1, none), (25, .aload_n 1, 1, none), (26, .getfield 85, 3, none), (29, .putfield 85, 3, none), (32, .aload_n 0, 1, none), (33, .aload_n 1, 1, none), (34, .getfield 15, 3, none), (37, .putfield 15, 3, none), (40, .aload_n 1, 1, none), (41, .getfield 19, 3, none), (44, .iconst 0, 1, none), (45, .aload_n 0, 1, none), (46, .getfield 19, 3, none), (49, .iconst 0, 1, none), (50, .aload_n 0, 1, none), (51, .getfield 19, 3, none), (54, .arraylength, 1, none), (55, .invokestatic 79, 3, none), (58, .iconst 0, 1, none), (59, .istore_n 2, 1, none), (60, .iload_n 2, 1, some [true, true, true]), (61, .iconst 2, 1, none), (62, .if_icmp .ge 54, 3, none), (65, .aload_n 0, 1, none), (66, .getfield 24, 3, none), (69, .iload_n 2, 1, none), (70, .aaload, 1, none), (71, .aload_n 1, 1, none), (72, .getfield 24, 3, none), (75, .iload_n 2, 1, none), (76, .aaload, 1, none), (77, .invokevirtual 55, 3, none), (80, .aload_n 0, 1, none), (81, .getfield 30, 3, none), (84, .iload_n 2, 1, none), (85, .aaload, 1, none), (86, .aload_n 1, 1, none), (87, .getfield 30, 3, none), (90, .iload_n 2, 1, none), (91, .aaload, 1, none), (92, .invokevirtual 63, 3, none), (95, .aload_n 0, 1, none), (96, .getfield 36, 3, none), (99, .iload_n 2, 1, none), (100, .aaload, 1, none), (101, .aload_n 1, 1, none), (102, .getfield 36, 3, none), (105, .iload_n 2, 1, none), (106, .aaload, 1, none), (107, .invokevirtual 70, 3, none), (110, .iinc 2 1, 3, none), (113, .goto (-53), 3, none), (116, .return_, 1, some [false, false, false])]
def mi_107 : PI := (7, 3, 0, 2, 7, 2, 61, cd_107)
/-- IllLight.feed(IIIII)I -/
def cd_108 : List (Nat × Instr × Nat × Option (List Bool)) := [(0, .aload_n 0, 1, none), (1, .getfield 10, 3, none), (4, .getfield 52, 3, none), (7, .bipush 20, 2, none), (9, .iadd, 1, none), (10, .sipush 600, 3, none), (13, .if_icmp .le 5, 3, none), (16, .iconst (-1), 1, none), (17, .ireturn, 1, none), (18, .aload_n 0, 1, some [true, true, true, true, true, true]), (19, .getfield 10, 3, none), (22, .iload_n 1, 1, none), (23, .invokevirtual 56, 3, none), (26, .aload_n 0, 1, none), (27, .getfield 10, 3, none), (30, .iload_n 2, 1, none), (31, .invokevirtual 56, 3, none), (34, .aload_n 0, 1, none), (35, .getfield 10, 3, none), (38, .iload_n 3, 1, none), (39, .invokevirtual 56, 3, none), (42, .aload_n 0, 1, none), (43, .getfield 10, 3, none), (46, .iload 4, 2, none), (48, .invokevirtual 56, 3, none), (51, .aload_n 0, 1, none), (52, .getfield 10, 3, none), (55, .iload 5, 2, none), (57, .invokevirtual 56, 3, none), (60, .aload_n 0, 1, none), (61, .getfield 10, 3, none), (64, .getfield 52, 3, none), (67, .ireturn, 1, none)]
def mi_108 : PI := (8, 6, 1, 6, 8, 1, 22, cd_108)
/-- IllLight.end(I)I -/
def cd_109 : List (Nat × Instr × Nat × Option (List Bool)) := [(0, .iload_n 1, 1, none), (1, .ifCond .lt 14, 3, none), (4, .iload_n 1, 1, none), (5, .aload_n 0, 1, none), (6, .getfield 10, 3, none), (9, .getfield 52, 3, none), (12, .if_icmp .le 5, 3, none), (15, .iconst (-1), 1, some [false, false]), (16, .ireturn, 1, none), (17, .aload_n 0, 1, some [true, true]), (18, .getfield 10, 3, none), (21, .iload_n 1, 1, none), (22, .putfield 52, 3, none), (25, .iload_n 1, 1, none), (26, .ireturn, 1, none)]
def mi_109 : PI := (8, 2, 1, 2, 8, 0, 0, cd_109)
/-- IllLight.text(II)I -/
def cd_110 : List (Nat × Instr × Nat × Option (List Bool)) := [(0, .aload_n 0, 1, none), (1, .getfield 10, 3, none), (4, .iconst 0, 1, none), (5, .putfield 60, 3, none), (8, .aload_n 0, 1, none), (9, .getfield 10, 3, none), (12, .iconst (-1), 1, none), (13, .putfield 63, 3, none), (16, .aload_n 0, 1, none), (17, .getfield 10, 3, none), (20, .getfield 52, 3, none), (23, .istore_n 3, 1, none), (24, .aload_n 0, 1, none), (25, .getfield 10, 3, none), (28, .iconst 0, 1, none), (29, .putfield 52, 3, none), (32, .aload_n 0, 1, none), (33, .getfield 10, 3, none), (36, .iload_n 1, 1, none), (37, .invokevirtual 66, 3, none), (40, .istore 4, 2, none), (42, .iload_n 2, 1, none), (43, .iconst (-1), 1, none), (44, .if_icmp .ne 7, 3, none), (47, .iconst 1, 1, none), (48, .goto 4, 3, none), (51, .iconst 0, 1, some [true, true, true, true, true, false, false]), (52, .istore 5, 2, some [true, true, true, true, true, false, false]), (54, .iload 4, 2, none), (56, .bipush (-2), 2, none), (58, .if_icmp .eq 27, 3, none), (61, .iload 5, 2, none), (63, .ifCond .eq 12, 3, none), (66, .iload 4, 2, none), (68, .iconst 2, 1, none), (69, .if_icmp .lt 19, 3, none), (72, .goto 13, 3, none), (75, .iload_n 2, 1, some [true, true, true, true, true, true, false]), (76, .ifCond .lt 9, 3, none), (79, .iload_n 2, 1, none), (80, .iload 4, 2, none), (82, .if_icmp .lt 6, 3, none), (85, .bipush (-2), 2, some [false, false, false, false, false, false, false]), (87, .ireturn, 1, none), (88, .aload_n 0, 1, some [true, true, true, true, true, true, false]), (89, .getfield 27, 3, none), (92, .aload_n 0, 1, none), (93, .getfield 10, 3, none), (96, .getfield 70, 3, none), (99, .iload_n 3, 1, none), (100, .iload_n 1, 1, none), (101, .invokevirtual 74, 3, none), (104, .aload_n 0, 1, none), (105, .getfield 10, 3, none), (108, .aload_n 0, 1, none), (109, .getfield 27, 3, none), (112, .getfield 78, 3, none), (115, .putfield 60, 3, none), (118, .aload_n 0, 1, none), (119, .getfield 10, 3, none), (122, .aload_n 0, 1, none), (123, .getfield 27, 3, none), (126, .getfield 79, 3, none), (129, .putfield 63, 3, none), (132, .aload_n 0, 1, none), (133, .getfield 27, 3, none), (136, .getfield 78, 3, none), (139, .ifCond .eq 5, 3, none), (142, .iconst (-1), 1, none), (143, .ireturn, 1, none), (144, .iload 5, 2, some [true, true, true, false, true, true, false]), (146, .ifCond .eq 8, 3, none), (149, .iload 4, 2, none), (151, .goto 4, 3, none), (154, .iload_n 2, 1, some [true, true, true, false, false, false, false]), (155, .istore 6, 2, some [true, true, false, false, false, false, false]), (157, .aload_n 0, 1, none), (158, .getfield 10, 3, none), (161, .aload_n 0, 1, none), (162, .getfield 27, 3, none), (165, .iload_n 1, 1, none), (166, .iload 6, 2, none), (168, .invokevirtual 80, 3, none), (171, .iload 6, 2, none), (173, .ireturn, 1, none)]
def mi_110 : PI := (8, 7, 1, 3, 8, 8, 180, cd_110)
/-- IllLight.fault(I)I -/
def cd_111 : List (Nat × Instr × Nat × Option (List Bool)) := [(0, .iload_n 1, 1, none), (1, .ifCond .ne 11, 3, none), (4, .aload_n 0, 1, none), (5, .getfield 10, 3, none), (8, .getfield 60, 3, none), (11, .ireturn, 1, none), (12, .iload_n 1, 1, some [true, true]), (13, .iconst 1, 1, none), (14, .if_icmp .ne 13, 3, none), (17, .aload_n 0, 1, none), (18, .getfield 10, 3, none), (21, .getfield 63, 3, none), (24, .goto 4, 3, none), (27, .iconst (-1), 1, some [false, false]), (28, .ireturn, 1, some [false, false])]
def mi_111 : PI := (8, 2, 1, 2, 8, 0, 0, cd_111)
/-- IllLight.coast(II)I -/
def cd_112 : List (Nat × Instr × Nat × Option (List Bool)) := [(0, .aload_n 0, 1, none), (1, .iload_n 1, 1, none), (2, .invokevirtual 84, 3, none), (5, .astore_n 3, 1, none), (6, .aload_n 3, 1, none), (7, .ifnonnull 7, 3, none), (10, .iconst (-1), 1, none), (11, .goto 8, 3, none), (14, .aload_n 3, 1, some [false, false, true, true]), (15, .iload_n 2, 1, none), (16, .invokevirtual 88, 3, none), (19, .ireturn, 1, some [false, false, false, false])]
def mi_112 : PI := (8, 4, 1, 3, 8, 4, 84, cd_112)
/-- IllLight.man(IIII)I -/
def cd_113 : List (Nat × Instr × Nat × Option (List Bool)) := [(0, .aload_n 0, 1, none), (1, .iload_n 1, 1, none), (2, .invokevirtual 84, 3, none), (5, .astore 5, 2, none), (7, .aload 5, 2, none), (9, .ifnull 13, 3, none), (12, .aload 5, 2, none), (14, .iload_n 2, 1, none), (15, .iload_n 3, 1, none), (16, .invokevirtual 91, 3, none), (19, .ifCond .ne 5, 3, none), (22, .iconst (-1), 1, some [false, false, false, false, false, false, false]), (23, .ireturn, 1, none), (24, .iconst 4, 1, some [false, false, true, true, true, true, false]), (25, .iload_n 2, 1, none), (26, .imul, 1, none), (27, .iload_n 3, 1, none), (28, .iadd, 1, none), (29, .istore 6, 2, none), (31, .iload 4, 2, none), (33, .tableswitch 54 0 2 #[27, 36, 45], 27, none), (60, .aload 5, 2, some [false, false, false, false, false, true, true]), (62, .getfield 95, 3, none), (65, .iload 6, 2, none), (67, .iaload, 1, none), (68, .ireturn, 1, none), (69, .aload 5, 2, some [false, false, false, false, false, true, true]), (71, .getfield 98, 3, none), (74, .iload 6, 2, none), (76, .iaload, 1, none), (77, .ireturn, 1, none), (78, .aload 5, 2, some [false, false, false, false, false, true, true]), (80, .getfield 101, 3, none), (83, .iload 6, 2, none), (85, .iaload, 1, none), (86, .ireturn, 1, none), (87, .iconst (-1), 1, some [false, false, false, false, false, false, false]), (88, .ireturn, 1, none)]
def mi_113 : PI := (8, 7, 1, 5, 8, 2, 42, cd_113)
/-- IllLight.deed(III)I -/
def cd_114 : List (Nat × Instr × Nat × Option (List Bool)) := [(0, .aload_n 0, 1, none), (1, .iload_n 1, 1, none), (2, .invokevirtual 104, 3, none), (5, .astore 4, 2, none), (7, .aload 4, 2, none), (9, .ifnonnull 6, 3, none), (12, .bipush (-2), 2, none), (14, .ireturn, 1, none), (15, .iload_n 2, 1, some [false, false, true, true, true]), (16, .iconst (-1), 1, none), (17, .if_icmp .ne 18, 3, none), (20, .iload_n 3, 1, none), (21, .ifCond .ne 11, 3, none), (24, .aload 4, 2, none), (26, .getfield 108, 3, none), (29, .goto 5, 3, none), (32, .bipush (-2), 2, some [false, false, false, false, false]), (34, .ireturn, 1, some [false, false, false, false, false]), (35, .aload 4, 2, some [false, false, true, true, true]), (37, .iload_n 2, 1, none), (38, .iload_n 3, 1, none), (39, .invokevirtual 113, 3, none), (42, .ireturn, 1, none)]
def mi_114 : PI := (8, 5, 1, 4, 8, 2, 42, cd_114)
/-- IllLight.light(IIII)I -/
def cd_115 : List (Nat × Instr × Nat × Option (List Bool)) := [(0, .aload_n 0, 1, none), (1, .iload_n 1, 1, none), (2, .invokevirtual 84, 3, none), (5, .astore 5, 2, none), (7, .aload 5, 2, none), (9, .ifnull 19, 3, none), (12, .aload 5, 2, none), (14, .iload_n 2, 1, none), (15, .invokevirtual 116, 3, none), (18, .ifCond .eq 10, 3, none), (21, .iload_n 3, 1, none), (22, .invokestatic 120, 3, none), (25, .ifCond .ne 5, 3, none), (28, .iconst (-1), 1, some [false, false, false, false, false, false, false]), (29, .ireturn, 1, none), (30, .iload 4, 2, some [false, false, true, true, true, true, false]), (32, .tableswitch 64 0 2 #[28, 36, 44], 28, none), (60, .aload 5, 2, some [false, false, true, true, false, true, false]), (62, .iload_n 2, 1, none), (63, .iload_n 3, 1, none), (64, .invokevirtual 123, 3, none), (67, .ireturn, 1, none), (68, .aload 5, 2, some [false, false, true, true, false, true, false]), (70, .iload_n 2, 1, none), (71, .iload_n 3, 1, none), (72, .invokevirtual 126, 3, none), (75, .ireturn, 1, none), (76, .aload 5, 2, some [false, false, true, true, false, true, false]), (78, .iload_n 2, 1, none), (79, .iload_n 3, 1, none), (80, .invokevirtual 126, 3, none), (83, .iload_n 3, 1, none), (84, .invokestatic 129, 3, none), (87, .ifCond .eq 7, 3, none), (90, .iconst 1, 1, none), (91, .goto 4, 3, none), (94, .iconst 0, 1, some [false, false, false, false, false, false, false]), (95, .ireturn, 1, some [false, false, false, false, false, false, false]), (96, .iload 4, 2, some [false, false, true, true, true, true, false]), (98, .bipush 10, 2, none), (100, .if_icmp .ge 7, 3, none), (103, .iconst (-1), 1, none), (104, .goto 8, 3, none), (107, .iload 4, 2, some [false, false, true, true, true, true, false]), (109, .bipush 10, 2, none), (111, .isub, 1, none), (112, .istore 6, 2, some [false, false, true, true, false, true, false]), (114, .aload 5, 2, none), (116, .iload_n 2, 1, none), (117, .iload 6, 2, none), (119, .invokevirtual 91, 3, none), (122, .ifCond .eq 15, 3, none), (125, .aload 5, 2, none), (127, .iload_n 2, 1, none), (128, .iload 6, 2, none), (130, .iload_n 3, 1, none), (131, .invokevirtual 132, 3, none), (134, .goto 4, 3, none), (137, .iconst (-1), 1, some [false, false, false, false, false, false, false]), (138, .ireturn, 1, some [false, false, false, false, false, false, false])]
def mi_115 : PI := (8, 7, 1, 5, 8, 3, 87, cd_115)
/-- IllLight.stop(II)I -/
def cd_116 : List (Nat × Instr × Nat × Option (List Bool)) := [(0, .aload_n 0, 1, none), (1, .iload_n 1, 1, none), (2, .invokevirtual 84, 3, none), (5, .astore_n 3, 1, none), (6, .aload_n 0, 1, none), (7, .iload_n 2, 1, none), (8, .invokevirtual 104, 3, none), (11, .astore 4, 2, none), (13, .aload_n 3, 1, none), (14, .ifnull 8, 3, none), (17, .aload 4, 2, none), (19, .ifnonnull 7, 3, none), (22, .iconst (-1), 1, some [false, false, false, false, false]), (23, .goto 18, 3, none), (26, .aload_n 0, 1, some [true, false, false, true, true]), (27, .getfield 34, 3, none), (30, .aload_n 3, 1, none), (31, .aload 4, 2, none), (33, .aload 4, 2, none), (35, .getfield 108, 3, none), (38, .invokevirtual 136, 3, none), (41, .ireturn, 1, some [false, false, false, false, false])]
def mi_116 : PI := (8, 5, 1, 3, 8, 6, 163, cd_116)
/-- IllLight.state(IIII)I -/
def cd_117 : List (Nat × Instr × Nat × Option (List Bool)) := [(0, .aload_n 0, 1, none), (1, .iload_n 1, 1, none), (2, .invokevirtual 84, 3, none), (5, .astore 5, 2, none), (7, .aload_n 0, 1, none), (8, .iload_n 2, 1, none), (9, .invokevirtual 104, 3, none), (12, .astore 6, 2, none), (14, .aload 5, 2, none), (16, .ifnull 28, 3, none), (19, .aload 6, 2, none), (21, .ifnull 23, 3, none), (24, .iload_n 3, 1, none), (25, .ifCond .lt 19, 3, none), (28, .aload_n 0, 1, none), (29, .getfield 34, 3, none), (32, .aload 5, 2, none), (34, .aload 6, 2, none), (36, .iload_n 3, 1, none), (37, .invokevirtual 136, 3, none), (40, .iload_n 3, 1, none), (41, .if_icmp .ge 6, 3, none), (44, .bipush (-2), 2, some [false, false, false, false, false, false, false]), (46, .ireturn, 1, none), (47, .aload_n 0, 1, some [true, false, false, false, true, false, false]), (48, .getfield 34, 3, none), (51, .iload 4, 2, none), (53, .invokevirtual 140, 3, none), (56, .ireturn, 1, none)]
def mi_117 : PI := (8, 7, 1, 5, 8, 6, 163, cd_117)
/-- IllLight.way(III)I -/
def cd_118 : List (Nat × Instr × Nat × Option (List Bool)) := [(0, .aload_n 0, 1, none), (1, .iload_n 1, 1, none), (2, .invokevirtual 84, 3, none), (5, .astore 4, 2, none), (7, .aload 4, 2, none), (9, .iload_n 2, 1, none), (10, .iload_n 3, 1, none), (11, .invokestatic 141, 3, none), (14, .ifCond .ne 5, 3, none), (17, .iconst (-1), 1, none), (18, .ireturn, 1, none), (19, .aload_n 0, 1, some [true, false, true, true, true]), (20, .getfield 48, 3, none), (23, .aload 4, 2, none), (25, .iload_n 2, 1, none), (26, .aload 4, 2, none), (28, .iload_n 3, 1, none), (29, .invokevirtual 145, 3, none), (32, .invokevirtual 148, 3, none), (35, .aload_n 0, 1, none), (36, .getfield 48, 3, none), (39, .aload 4, 2, none), (41, .iload_n 2, 1, none), (42, .invokevirtual 152, 3, none), (45, .iconst 0, 1, none), (46, .bipush 60, 2, none), (48, .invokevirtual 155, 3, none), (51, .ireturn, 1, none)]
def mi_118 : PI := (8, 5, 1, 4, 8, 4, 110, cd_118)
/-- IllLight.free(IIII)I -/
def cd_119 : List (Nat × Instr × Nat × Option (List Bool)) := [(0, .aload_n 0, 1, none), (1, .iload_n 1, 1, none), (2, .invokevirtual 84, 3, none), (5, .astore 5, 2, none), (7, .aload 5, 2, none), (9, .ifnull 19, 3, none), (12, .aload 5, 2, none), (14, .iload_n 2, 1, none), (15, .invokevirtual 116, 3, none), (18, .ifCond .eq 10, 3, none), (21, .iload_n 3, 1, none), (22, .invokestatic 158, 3, none), (25, .ifCond .ne 5, 3, none), (28, .iconst (-1), 1, some [false, false, false, false, false, false]), (29, .ireturn, 1, none), (30, .aload_n 0, 1, some [true, false, true, true, true, true]), (31, .getfield 48, 3, none), (34, .aload 5, 2, none), (36, .iload_n 2, 1, none), (37, .aload 5, 2, none), (39, .getfield 161, 3, none), (42, .iload_n 2, 1, none), (43, .iaload, 1, none), (44, .invokevirtual 148, 3, none), (47, .iload 4, 2, none), (49, .tableswitch 63 0 2 #[27, 42, 53], 27, none), (76, .aload_n 0, 1, some [true, false, true, true, false, true]), (77, .getfield 48, 3, none), (80, .aload 5, 2, none), (82, .iload_n 2, 1, none), (83, .invokevirtual 152, 3, none), (86, .iload_n 3, 1, none), (87, .invokevirtual 164, 3, none), (90, .ireturn, 1, none), (91, .aload_n 0, 1, some [true, false, false, true, false, false]), (92, .getfield 48, 3, none), (95, .ldc 167, 2, none), (97, .iload_n 3, 1, none), (98, .invokevirtual 164, 3, none), (101, .ireturn, 1, none), (102, .aload_n 0, 1, some [true, false, false, true, false, false]), (103, .getfield 48, 3, none), (106, .iconst 0, 1, none), (107, .iload_n 3, 1, none), (108, .invokevirtual 164, 3, none), (111, .ireturn, 1, none), (112, .iconst (-1), 1, some [false, false, false, false, false, false]), (113, .ireturn, 1, none)]
def mi_119 : PI := (8, 6, 1, 5, 8, 4, 110, cd_119)
/-- IllLight.helps(IIIII)I -/
def cd_120 : List (Nat × Instr × Nat × Option (List Bool)) := [(0, .aload_n 0, 1, none), (1, .iload_n 1, 1, none), (2, .invokevirtual 84, 3, none), (5, .astore 6, 2, none), (7, .aload 6, 2, none), (9, .iload_n 2, 1, none), (10, .iload_n 3, 1, none), (11, .invokestatic 141, 3, none), (14, .ifCond .eq 11, 3, none), (17, .iload 4, 2, none), (19, .invokestatic 158, 3, none), (22, .ifCond .ne 5, 3, none), (25, .iconst (-1), 1, some [false, false, false, false, false, false, false]), (26, .ireturn, 1, none), (27, .aload_n 0, 1, some [true, false, true, true, true, true, true]), (28, .getfield 48, 3, none), (31, .aload 6, 2, none), (33, .iload_n 2, 1, none), (34, .aload 6, 2, none), (36, .iload_n 3, 1, none), (37, .invokevirtual 145, 3, none), (40, .invokevirtual 148, 3, none), (43, .iload 5, 2, none), (45, .tableswitch 90 0 4 #[35, 46, 56, 66, 79], 35, none), (80, .aload_n 0, 1, some [true, false, true, false, true, false, true]), (81, .aload 6, 2, none), (83, .iload_n 2, 1, none), (84, .iload 4, 2, none), (86, .iconst 1, 1, none), (87, .invokevirtual 168, 3, none), (90, .ireturn, 1, none), (91, .aload_n 0, 1, some [true, false, true, false, true, false, true]), (92, .aload 6, 2, none), (94, .iload_n 2, 1, none), (95, .iload 4, 2, none), (97, .invokevirtual 172, 3, none), (100, .ireturn, 1, none), (101, .aload_n 0, 1, some [true, false, true, false, true, false, true]), (102, .aload 6, 2, none), (104, .iload_n 2, 1, none), (105, .iload 4, 2, none), (107, .invokevirtual 176, 3, none), (110, .ireturn, 1, none), (111, .aload_n 0, 1, some [true, false, true, false, true, false, true]), (112, .aload 6, 2, none), (114, .iload_n 2, 1, none), (115, .iload 4, 2, none), (117, .invokevirtual 179, 3, none), (120, .invokestatic 182, 3, none), (123, .ireturn, 1, none), (124, .aload_n 0, 1, some [true, false, true, false, true, false, true]), (125, .aload 6, 2, none), (127, .iload_n 2, 1, none), (128, .iload 4, 2, none), (130, .iconst 0, 1, none), (131, .invokevirtual 168, 3, none), (134, .ireturn, 1, none), (135, .iconst (-1), 1, some [false, false, false, false, false, false, false]), (136, .ireturn, 1, none)]
def mi_120 : PI := (8, 7, 1, 6, 8, 5, 138, cd_120)
/-- IllLight.rest(III)I -/
def cd_121 : List (Nat × Instr × Nat × Option (List Bool)) := [(0, .aload_n 0, 1, none), (1, .iload_n 1, 1, none), (2, .invokevirtual 84, 3, none), (5, .astore 4, 2, none), (7, .aload 4, 2, none), (9, .ifnull 10, 3, none), (12, .iload_n 2, 1, none), (13, .invokestatic 185, 3, none), (16, .ifCond .ne 5, 3, none), (19, .iconst (-1), 1, some [false, false, false, false, false]), (20, .ireturn, 1, none), (21, .iload_n 3, 1, some [false, false, true, true, true]), (22, .bipush (-2), 2, none), (24, .if_icmp .ne 10, 3, none), (27, .aload 4, 2, none), (29, .iload_n 2, 1, none), (30, .invokestatic 188, 3, none), (33, .ireturn, 1, none), (34, .iload_n 3, 1, some [false, false, true, true, true]), (35, .iconst (-1), 1, none), (36, .if_icmp .ne 12, 3, none), (39, .aload 4, 2, none), (41, .iload_n 2, 1, none), (42, .invokestatic 194, 3, none), (45, .goto 10, 3, none), (48, .aload 4, 2, some [false, false, true, true, true]), (50, .iload_n 2, 1, none), (51, .iload_n 3, 1, none), (52, .invokestatic 197, 3, none), (55, .ireturn, 1, some [false, false, false, false, false])]
def mi_121 : PI := (8, 5, 1, 4, 8, 5, 121, cd_121)
/-- IllLight.premium(IIIZ)J -/
def cd_122 : List (Nat × Instr × Nat × Option (List Bool)) := [(0, .iload_n 1, 1, none), (1, .iconst 1, 1, none), (2, .if_icmp .lt 29, 3, none), (5, .iload_n 1, 1, none), (6, .bipush 9, 2, none), (8, .if_icmp .gt 23, 3, none), (11, .iload_n 2, 1, none), (12, .ifCond .lt 19, 3, none), (15, .iload_n 2, 1, none), (16, .bipush 10, 2, none), (18, .if_icmp .gt 13, 3, none), (21, .iload_n 3, 1, none), (22, .ifCond .lt 9, 3, none), (25, .iload_n 3, 1, none), (26, .bipush 99, 2, none), (28, .if_icmp .le 7, 3, none), (31, .ldc2_w 200, 3, some [false, false, false, false, false, false, false, false, false, false]), (34, .lreturn, 1, none), (35, .lconst 1, 1, some [false, true, true, true, true, false, false, false, false, false]), (36, .lstore 5, 2, none), (38, .lconst 1, 1, none), (39, .lstore 7, 2, none), (41, .iconst 0, 1, none), (42, .istore 9, 2, none), (44, .iload 9, 2, some [false, true, true, true, true, true, false, true, false, true]), (46, .iload_n 1, 1, none), (47, .if_icmp .ge 27, 3, none), (50, .lload 5, 2, none), (52, .ldc2_w 202, 3, none), (55, .lmul, 1, none), (56, .lstore 5, 2, none), (58, .lload 7, 2, none), (60, .bipush 10, 2, none), (62, .iload_n 2, 1, none), (63, .isub, 1, none), (64, .i2l, 1, none), (65, .lmul, 1, none), (66, .lstore 7, 2, none), (68, .iinc 9 1, 3, none), (71, .goto (-27), 3, none), (74, .iload_n 3, 1, some [false, false, false, true, true, true, false, true, false, false]), (75, .i2l, 1, none), (76, .lload 5, 2, none), (78, .lload 7, 2, none), (80, .lsub, 1, none), (81, .lmul, 1, none), (82, .lload 5, 2, none), (84, .iload 4, 2, none), (86, .invokestatic 204, 3, none), (89, .lreturn, 1, none)]
def mi_122 : PI := (8, 10, 3, 5, 8, 2, 52, cd_122)
/-- IllLight.log(II)I -/
def cd_123 : List (Nat × Instr × Nat × Option (List Bool)) := [(0, .aload_n 0, 1, none), (1, .iload_n 1, 1, none), (2, .invokevirtual 208, 3, none), (5, .astore_n 3, 1, none), (6, .aload_n 3, 1, none), (7, .ifnonnull 7, 3, none), (10, .iconst (-1), 1, none), (11, .goto 8, 3, none), (14, .aload_n 3, 1, some [false, false, true, true]), (15, .iload_n 2, 1, none), (16, .invokevirtual 212, 3, none), (19, .ireturn, 1, some [false, false, false, false])]
def mi_123 : PI := (8, 4, 1, 3, 8, 3, 64, cd_123)
/-- IllLight.fits(II)I -/
def cd_124 : List (Nat × Instr × Nat × Option (List Bool)) := [(0, .aload_n 0, 1, none), (1, .iload_n 1, 1, none), (2, .invokevirtual 208, 3, none), (5, .astore_n 3, 1, none), (6, .aload_n 3, 1, none), (7, .ifnonnull 6, 3, none), (10, .bipush (-2), 2, none), (12, .ireturn, 1, none), (13, .aload_n 3, 1, some [false, false, true, true, false, false]), (14, .invokevirtual 215, 3, none), (17, .lstore 4, 2, none), (19, .iload_n 2, 1, none), (20, .tableswitch 48 0 2 #[28, 34, 41], 28, none), (48, .lload 4, 2, some [false, false, false, false, true, false]), (50, .invokestatic 219, 3, none), (53, .ireturn, 1, none), (54, .aload_n 3, 1, some [false, false, false, true, true, false]), (55, .lload 4, 2, none), (57, .invokevirtual 225, 3, none), (60, .ireturn, 1, none), (61, .aload_n 3, 1, some [false, false, false, true, true, false]), (62, .lload 4, 2, none), (64, .invokevirtual 228, 3, none), (67, .ireturn, 1, none), (68, .iload_n 2, 1, some [false, false, true, true, true, false]), (69, .bipush 10, 2, none), (71, .if_icmp .ge 8, 3, none), (74, .bipush (-2), 2, none), (76, .goto 13, 3, none), (79, .aload_n 3, 1, some [false, false, true, true, true, false]), (80, .lload 4, 2, none), (82, .iload_n 2, 1, none), (83, .bipush 10, 2, none), (85, .isub, 1, none), (86, .invokevirtual 231, 3, none), (89, .ireturn, 1, some [false, false, false, false, false, false])]
def mi_124 : PI := (8, 6, 1, 3, 8, 5, 110, cd_124)
/-- IllLight.belief(IIZ)J -/
def cd_125 : List (Nat × Instr × Nat × Option (List Bool)) := [(0, .aload_n 0, 1, none), (1, .iload_n 1, 1, none), (2, .invokevirtual 208, 3, none), (5, .astore 4, 2, none), (7, .aload 4, 2, none), (9, .ifnull 12, 3, none), (12, .aload 4, 2, none), (14, .iload_n 2, 1, none), (15, .invokevirtual 235, 3, none), (18, .ifCond .ne 7, 3, none), (21, .ldc2_w 200, 3, some [false, false, false, false, false]), (24, .lreturn, 1, none), (25, .aload 4, 2, some [false, false, true, true, true]), (27, .iconst 1, 1, none), (28, .iload_n 2, 1, none), (29, .ishl, 1, none), (30, .iconst (-1), 1, none), (31, .invokevirtual 237, 3, none), (34, .aload 4, 2, none), (36, .iconst 0, 1, none), (37, .iconst (-1), 1, none), (38, .invokevirtual 237, 3, none), (41, .iload_n 3, 1, none), (42, .invokestatic 204, 3, none), (45, .lreturn, 1, none)]
def mi_125 : PI := (8, 5, 3, 4, 8, 5, 114, cd_125)
/-- IllLight.drawn(IIII)I -/
def cd_126 : List (Nat × Instr × Nat × Option (List Bool)) := [(0, .aload_n 0, 1, none), (1, .iload_n 1, 1, none), (2, .invokevirtual 84, 3, none), (5, .astore 5, 2, none), (7, .aload 5, 2, none), (9, .ifnull 18, 3, none), (12, .aload 5, 2, none), (14, .getfield 241, 3, none), (17, .ifCond .eq 10, 3, none), (20, .iload_n 3, 1, none), (21, .invokestatic 158, 3, none), (24, .ifCond .ne 6, 3, none), (27, .bipush (-2), 2, some [false, false, false, false, false, false]), (29, .ireturn, 1, none), (30, .aload_n 0, 1, some [true, false, true, true, true, true]), (31, .getfield 34, 3, none), (34, .aload 5, 2, none), (36, .iload_n 2, 1, none), (37, .iload_n 3, 1, none), (38, .invokevirtual 244, 3, none), (41, .aload_n 0, 1, none), (42, .getfield 34, 3, none), (45, .iload 4, 2, none), (47, .invokevirtual 140, 3, none), (50, .ireturn, 1, none)]
def mi_126 : PI := (8, 6, 1, 5, 8, 6, 164, cd_126)
/-- IllLight.hours(III)I -/
def cd_127 : List (Nat × Instr × Nat × Option (List Bool)) := [(0, .aload_n 0, 1, none), (1, .iload_n 1, 1, none), (2, .invokevirtual 84, 3, none), (5, .astore 4, 2, none), (7, .aload 4, 2, none), (9, .ifnull 12, 3, none), (12, .aload 4, 2, none), (14, .iload_n 2, 1, none), (15, .invokevirtual 116, 3, none), (18, .ifCond .ne 5, 3, none), (21, .iconst (-1), 1, some [false, false, false, false, false]), (22, .ireturn, 1, none), (23, .iload_n 3, 1, some [false, false, true, true, true]), (24, .tableswitch 84 0 4 #[36, 43, 51, 66, 73], 36, none), (60, .aload 4, 2, some [false, false, true, false, true]), (62, .iload_n 2, 1, none), (63, .invokevirtual 152, 3, none), (66, .ireturn, 1, none), (67, .aload 4, 2, some [false, false, true, false, true]), (69, .iload_n 2, 1, none), (70, .iconst 1, 1, none), (71, .invokevirtual 247, 3, none), (74, .ireturn, 1, none), (75, .ldc 167, 2, some [false, false, true, false, true]), (77, .aload 4, 2, none), (79, .iload_n 2, 1, none), (80, .invokevirtual 152, 3, none), (83, .iconst (-1), 1, none), (84, .ixor, 1, none), (85, .iand, 1, none), (86, .invokestatic 250, 3, none), (89, .ireturn, 1, none), (90, .aload 4, 2, some [false, false, true, false, true]), (92, .iload_n 2, 1, none), (93, .invokevirtual 253, 3, none), (96, .ireturn, 1, none), (97, .aload 4, 2, some [false, false, true, false, true]), (99, .iload_n 2, 1, none), (100, .iconst 2, 1, none), (101, .invokevirtual 247, 3, none), (104, .invokestatic 256, 3, none), (107, .ireturn, 1, none), (108, .iconst (-1), 1, some [false, false, false, false, false]), (109, .ireturn, 1, none)]
def mi_127 : PI := (8, 5, 1, 4, 8, 4, 111, cd_127)
/-- IllLight.shade(II)I -/
def cd_128 : List (Nat × Instr × Nat × Option (List Bool)) := [(0, .aload_n 0, 1, none), (1, .iload_n 1, 1, none), (2, .invokevirtual 84, 3, none), (5, .astore_n 3, 1, none), (6, .aload_n 3, 1, none), (7, .ifnull 11, 3, none), (10, .aload_n 3, 1, none), (11, .iload_n 2, 1, none), (12, .invokevirtual 116, 3, none), (15, .ifCond .ne 7, 3, none), (18, .iconst (-1), 1, some [false, false, false, false]), (19, .goto 8, 3, none), (22, .aload_n 3, 1, some [false, false, true, true]), (23, .iload_n 2, 1, none), (24, .invokevirtual 260, 3, none), (27, .ireturn, 1, some [false, false, false, false])]
def mi_128 : PI := (8, 4, 1, 3, 8, 2, 44, cd_128)
/-- IllLight.leaves(IIII)I -/
def cd_129 : List (Nat × Instr × Nat × Option (List Bool)) := [(0, .aload_n 0, 1, none), (1, .iload_n 1, 1, none), (2, .invokevirtual 84, 3, none), (5, .astore 5, 2, none), (7, .aload 5, 2, none), (9, .iload_n 2, 1, none), (10, .iload_n 3, 1, none), (11, .invokestatic 141, 3, none), (14, .ifCond .eq 11, 3, none), (17, .iload 4, 2, none), (19, .invokestatic 158, 3, none), (22, .ifCond .ne 5, 3, none), (25, .iconst (-1), 1, some [false, false, false, false, false, false]), (26, .ireturn, 1, none), (27, .aload_n 0, 1, some [true, false, true, true, true, true]), (28, .getfield 48, 3, none), (31, .aload 5, 2, none), (33, .iload_n 2, 1, none), (34, .aload 5, 2, none), (36, .iload_n 3, 1, none), (37, .invokevirtual 145, 3, none), (40, .invokevirtual 148, 3, none), (43, .aload_n 0, 1, none), (44, .aload 5, 2, none), (46, .iload_n 2, 1, none), (47, .iload 4, 2, none), (49, .invokevirtual 179, 3, none), (52, .ireturn, 1, none)]
def mi_129 : PI := (8, 6, 1, 5, 8, 5, 136, cd_129)
/-- IllLight.back(III)I -/
def cd_130 : List (Nat × Instr × Nat × Option (List Bool)) := [(0, .aload_n 0, 1, none), (1, .iload_n 1, 1, none), (2, .invokevirtual 84, 3, none), (5, .astore 4, 2, none), (7, .aload 4, 2, none), (9, .iload_n 2, 1, none), (10, .iload_n 3, 1, none), (11, .invokestatic 141, 3, none), (14, .ifCond .ne 5, 3, none), (17, .iconst (-1), 1, none), (18, .ireturn, 1, none), (19, .aload_n 0, 1, some [true, false, true, true, true]), (20, .getfield 48, 3, none), (23, .aload 4, 2, none), (25, .iload_n 2, 1, none), (26, .aload 4, 2, none), (28, .iload_n 3, 1, none), (29, .invokevirtual 145, 3, none), (32, .invokevirtual 148, 3, none), (35, .aload_n 0, 1, none), (36, .getfield 48, 3, none), (39, .aload 4, 2, none), (41, .iload_n 2, 1, none), (42, .invokevirtual 152, 3, none), (45, .bipush 60, 2, none), (47, .invokevirtual 263, 3, none), (50, .ireturn, 1, none)]
def mi_130 : PI := (8, 5, 1, 4, 8, 4, 110, cd_130)
/-- IllLight.watch(III)I -/
def cd_131 : List (Nat × Instr × Nat × Option (List Bool)) := [(0, .aload_n 0, 1, none), (1, .iload_n 1, 1, none), (2, .invokevirtual 84, 3, none), (5, .astore 4, 2, none), (7, .aload 4, 2, none), (9, .ifnull 19, 3, none), (12, .iload_n 2, 1, none), (13, .invokestatic 185, 3, none), (16, .ifCond .eq 12, 3, none), (19, .iload_n 3, 1, none), (20, .ifCond .lt 8, 3, none), (23, .iload_n 3, 1, none), (24, .iconst 3, 1, none), (25, .if_icmp .le 5, 3, none), (28, .iconst (-1), 1, some [false, false, false, false, false, false]), (29, .ireturn, 1, none), (30, .aload_n 0, 1, some [true, false, true, true, true, false]), (31, .getfield 48, 3, none), (34, .aload 4, 2, none), (36, .iload_n 2, 1, none), (37, .invokevirtual 266, 3, none), (40, .iload_n 3, 1, none), (41, .iconst 3, 1, none), (42, .if_icmp .ne 16, 3, none), (45, .aload_n 0, 1, none), (46, .getfield 48, 3, none), (49, .aload 4, 2, none), (51, .getfield 270, 3, none), (54, .invokevirtual 274, 3, none), (57, .ireturn, 1, none), (58, .aload_n 0, 1, some [true, false, false, true, false, false]), (59, .getfield 48, 3, none), (62, .invokevirtual 277, 3, none), (65, .istore 5, 2, none), (67, .iload_n 3, 1, none), (68, .ifCond .ne 13, 3, none), (71, .aload_n 0, 1, none), (72, .getfield 48, 3, none), (75, .iload 5, 2, none), (77, .invokevirtual 281, 3, none), (80, .ireturn, 1, none), (81, .iload_n 3, 1, some [false, false, false, true, false, true]), (82, .iconst 1, 1, none), (83, .if_icmp .ne 11, 3, none), (86, .iload 5, 2, none), (88, .bipush 64, 2, none), (90, .idiv, 1, none), (91, .goto 8, 3, none), (94, .iload 5, 2, some [false, false, false, false, false, true]), (96, .bipush 64, 2, none), (98, .irem, 1, none), (99, .ireturn, 1, some [false, false, false, false, false, false])]
def mi_131 : PI := (8, 6, 1, 4, 8, 3, 74, cd_131)
/-- IllLight.mutiny(IIIZ)I -/
def cd_132 : List (Nat × Instr × Nat × Option (List Bool)) := [(0, .aload_n 0, 1, none), (1, .iload_n 1, 1, none), (2, .invokevirtual 84, 3, none), (5, .astore 5, 2, none), (7, .aload 5, 2, none), (9, .ifnull 20, 3, none), (12, .aload 5, 2, none), (14, .iload_n 2, 1, none), (15, .iconst 0, 1, none), (16, .invokevirtual 91, 3, none), (19, .ifCond .eq 10, 3, none), (22, .iload_n 3, 1, none), (23, .invokestatic 120, 3, none), (26, .ifCond .ne 5, 3, none), (29, .iconst (-1), 1, some [false, false, false, false, false, false]), (30, .ireturn, 1, none), (31, .iload 4, 2, some [false, false, true, true, true, true]), (33, .ifCond .eq 13, 3, none), (36, .aload 5, 2, none), (38, .iload_n 2, 1, none), (39, .iload_n 3, 1, none), (40, .invokevirtual 284, 3, none), (43, .goto 10, 3, none), (46, .aload 5, 2, some [false, false, true, true, false, true]), (48, .iload_n 2, 1, none), (49, .iload_n 3, 1, none), (50, .invokevirtual 287, 3, none), (53, .ireturn, 1, some [false, false, false, false, false, false])]
def mi_132 : PI := (8, 6, 1, 5, 8, 2, 49, cd_132)
/-- IllLight.next(IIZ)J -/
def cd_133 : List (Nat × Instr × Nat × Option (List Bool)) := [(0, .aload_n 0, 1, none), (1, .iload_n 1, 1, none), (2, .invokevirtual 208, 3, none), (5, .astore 4, 2, none), (7, .aload 4, 2, none), (9, .ifnull 10, 3, none), (12, .iload_n 2, 1, none), (13, .invokestatic 120, 3, none), (16, .ifCond .ne 7, 3, none), (19, .ldc2_w 200, 3, some [false, false, false, false, false]), (22, .lreturn, 1, none), (23, .aload 4, 2, some [false, false, true, true, true]), (25, .iconst 0, 1, none), (26, .iload_n 2, 1, none), (27, .invokevirtual 237, 3, none), (30, .aload 4, 2, none), (32, .iconst 0, 1, none), (33, .iconst (-1), 1, none), (34, .invokevirtual 237, 3, none), (37, .iload_n 3, 1, none), (38, .invokestatic 204, 3, none), (41, .lreturn, 1, none)]
def mi_133 : PI := (8, 5, 3, 4, 8, 5, 114, cd_133)
/-- IllLight.both(IIIZ)J -/
def cd_134 : List (Nat × Instr × Nat × Option (List Bool)) := [(0, .aload_n 0, 1, none), (1, .iload_n 1, 1, none), (2, .invokevirtual 208, 3, none), (5, .astore 5, 2, none), (7, .aload 5, 2, none), (9, .ifnull 26, 3, none), (12, .iload_n 2, 1, none), (13, .iload_n 3, 1, none), (14, .if_icmp .eq 21, 3, none), (17, .aload 5, 2, none), (19, .iload_n 2, 1, none), (20, .invokevirtual 235, 3, none), (23, .ifCond .eq 12, 3, none), (26, .aload 5, 2, none), (28, .iload_n 3, 1, none), (29, .invokevirtual 235, 3, none), (32, .ifCond .ne 7, 3, none), (35, .ldc2_w 200, 3, some [false, false, false, false, false, false]), (38, .lreturn, 1, none), (39, .aload 5, 2, some [false, false, true, true, true, true]), (41, .iconst 1, 1, none), (42, .iload_n 2, 1, none), (43, .ishl, 1, none), (44, .iconst 1, 1, none), (45, .iload_n 3, 1, none), (46, .ishl, 1, none), (47, .ior, 1, none), (48, .iconst (-1), 1, none), (49, .invokevirtual 237, 3, none), (52, .aload 5, 2, none), (54, .iconst 0, 1, none), (55, .iconst (-1), 1, none), (56, .invokevirtual 237, 3, none), (59, .iload 4, 2, none), (61, .invokestatic 204, 3, none), (64, .lreturn, 1, none)]
def mi_134 : PI := (8, 6, 3, 5, 8, 5, 114, cd_134)
/-- IllLight.count(I)I -/
def cd_135 : List (Nat × Instr × Nat × Option (List Bool)) := [(0, .aload_n 0, 1, none), (1, .getfield 10, 3, none), (4, .iload_n 1, 1, none), (5, .invokevirtual 66, 3, none), (8, .ireturn, 1, none)]
def mi_135 : PI := (8, 2, 1, 2, 8, 1, 21, cd_135)
/-- IllLight.image(I)Z -/
def cd_136 : List (Nat × Instr × Nat × Option (List Bool)) := [(0, .iload_n 1, 1, none), (1, .ifCond .lt 8, 3, none), (4, .iload_n 1, 1, none), (5, .iconst 3, 1, none), (6, .if_icmp .lt 5, 3, none), (9, .iconst 0, 1, some [false, false]), (10, .ireturn, 1, none), (11, .aload_n 0, 1, some [true, true]), (12, .getfield 16, 3, none), (15, .iload_n 1, 1, none), (16, .aaload, 1, none), (17, .aload_n 0, 1, none), (18, .getfield 10, 3, none), (21, .invokevirtual 290, 3, none), (24, .aload_n 0, 1, none), (25, .getfield 20, 3, none), (28, .iload_n 1, 1, none), (29, .iconst 1, 1, none), (30, .bastore, 1, none), (31, .iconst 1, 1, none), (32, .ireturn, 1, none)]
def mi_136 : PI := (8, 2, 2, 2, 8, 3, 83, cd_136)
/-- IllLight.again(I)Z -/
def cd_137 : List (Nat × Instr × Nat × Option (List Bool)) := [(0, .iload_n 1, 1, none), (1, .ifCond .lt 17, 3, none), (4, .iload_n 1, 1, none), (5, .iconst 3, 1, none), (6, .if_icmp .ge 12, 3, none), (9, .aload_n 0, 1, none), (10, .getfield 20, 3, none), (13, .iload_n 1, 1, none), (14, .baload, 1, none), (15, .ifCond .ne 5, 3, none), (18, .iconst 0, 1, some [false, false]), (19, .ireturn, 1, none), (20, .aload_n 0, 1, some [true, true]), (21, .getfield 10, 3, none), (24, .aload_n 0, 1, none), (25, .getfield 16, 3, none), (28, .iload_n 1, 1, none), (29, .aaload, 1, none), (30, .invokevirtual 290, 3, none), (33, .iconst 1, 1, none), (34, .ireturn, 1, none)]
def mi_137 : PI := (8, 2, 2, 2, 8, 3, 83, cd_137)
/-- IllLight.coastAt(I)LIllLight$Coast; -/
def cd_138 : List (Nat × Instr × Nat × Option (List Bool)) := [(0, .iload_n 1, 1, none), (1, .ifCond .lt 15, 3, none), (4, .iload_n 1, 1, none), (5, .aload_n 0, 1, none), (6, .getfield 10, 3, none), (9, .iconst 0, 1, none), (10, .invokevirtual 66, 3, none), (13, .if_icmp .lt 7, 3, none), (16, .aconst_null, 1, some [false, false]), (17, .goto 12, 3, none), (20, .aload_n 0, 1, some [true, true]), (21, .getfield 10, 3, none), (24, .getfield 294, 3, none), (27, .iload_n 1, 1, none), (28, .aaload, 1, none), (29, .areturn, 1, some [false, false])]
def mi_138 : PI := (8, 2, 4, 2, 8, 1, 21, cd_138)
/-- IllLight.nightAt(I)LIllLight$Night; -/
def cd_139 : List (Nat × Instr × Nat × Option (List Bool)) := [(0, .iload_n 1, 1, none), (1, .ifCond .lt 15, 3, none), (4, .iload_n 1, 1, none), (5, .aload_n 0, 1, none), (6, .getfield 10, 3, none), (9, .iconst 1, 1, none), (10, .invokevirtual 66, 3, none), (13, .if_icmp .lt 7, 3, none), (16, .aconst_null, 1, some [false, false]), (17, .goto 12, 3, none), (20, .aload_n 0, 1, some [true, true]), (21, .getfield 10, 3, none), (24, .getfield 298, 3, none), (27, .iload_n 1, 1, none), (28, .aaload, 1, none), (29, .areturn, 1, some [false, false])]
def mi_139 : PI := (8, 2, 4, 2, 8, 1, 21, cd_139)
/-- IllLight.logAt(I)LIllLight$Log; -/
def cd_140 : List (Nat × Instr × Nat × Option (List Bool)) := [(0, .iload_n 1, 1, none), (1, .ifCond .lt 15, 3, none), (4, .iload_n 1, 1, none), (5, .aload_n 0, 1, none), (6, .getfield 10, 3, none), (9, .iconst 2, 1, none), (10, .invokevirtual 66, 3, none), (13, .if_icmp .lt 7, 3, none), (16, .aconst_null, 1, some [false, false]), (17, .goto 12, 3, none), (20, .aload_n 0, 1, some [true, true]), (21, .getfield 10, 3, none), (24, .getfield 302, 3, none), (27, .iload_n 1, 1, none), (28, .aaload, 1, none), (29, .areturn, 1, some [false, false])]
def mi_140 : PI := (8, 2, 4, 2, 8, 1, 21, cd_140)
/-- IllLight.isHour(I)Z -/
def cd_141 : List (Nat × Instr × Nat × Option (List Bool)) := [(0, .iload_n 0, 1, none), (1, .ifCond .lt 13, 3, none), (4, .iload_n 0, 1, none), (5, .bipush 24, 2, none), (7, .if_icmp .ge 7, 3, none), (10, .iconst 1, 1, none), (11, .goto 4, 3, none), (14, .iconst 0, 1, some [false]), (15, .ireturn, 1, some [false])]
def mi_141 : PI := (8, 1, 2, 1, 0, 0, 0, cd_141)
/-- IllLight.isLength(I)Z -/
def cd_142 : List (Nat × Instr × Nat × Option (List Bool)) := [(0, .iload_n 0, 1, none), (1, .ifCond .lt 13, 3, none), (4, .iload_n 0, 1, none), (5, .bipush 60, 2, none), (7, .if_icmp .gt 7, 3, none), (10, .iconst 1, 1, none), (11, .goto 4, 3, none), (14, .iconst 0, 1, some [false]), (15, .ireturn, 1, some [false])]
def mi_142 : PI := (8, 1, 2, 1, 0, 0, 0, cd_142)
/-- IllLight.isRange(I)Z -/
def cd_143 : List (Nat × Instr × Nat × Option (List Bool)) := [(0, .iload_n 0, 1, none), (1, .ifCond .lt 13, 3, none), (4, .iload_n 0, 1, none), (5, .bipush 7, 2, none), (7, .if_icmp .gt 7, 3, none), (10, .iconst 1, 1, none), (11, .goto 4, 3, none), (14, .iconst 0, 1, some [false]), (15, .ireturn, 1, some [false])]
def mi_143 : PI := (8, 1, 2, 1, 0, 0, 0, cd_143)
/-- IllLight.isVoyage(LIllLight$Coast;II)Z -/
def cd_144 : List (Nat × Instr × Nat × Option (List Bool)) := [(0, .aload_n 0, 1, none), (1, .ifnull 24, 3, none), (4, .aload_n 0, 1, none), (5, .iload_n 1, 1, none), (6, .invokevirtual 116, 3, none), (9, .ifCond .eq 16, 3, none), (12, .aload_n 0, 1, none), (13, .iload_n 2, 1, none), (14, .invokevirtual 145, 3, none), (17, .iconst (-1), 1, none), (18, .if_icmp .eq 7, 3, none), (21, .iconst 1, 1, none), (22, .goto 4, 3, none), (25, .iconst 0, 1, some [false, false, false]), (26, .ireturn, 1, some [false, false, false])]
def mi_144 : PI := (8, 3, 2, 3, 0, 2, 41, cd_144)
/-- IllLight.fewestMen(LIllLight$Coast;IIZ)I -/
def cd_145 : List (Nat × Instr × Nat × Option (List Bool)) := [(0, .aload_n 1, 1, none), (1, .getfield 306, 3, none), (4, .iload_n 2, 1, none), (5, .iaload, 1, none), (6, .istore 5, 2, none), (8, .iconst 1, 1, none), (9, .iload 5, 2, none), (11, .ishl, 1, none), (12, .iconst 1, 1, none), (13, .isub, 1, none), (14, .istore 6, 2, none), (16, .iconst 0, 1, none), (17, .istore 7, 2, none), (19, .iload 7, 2, some [true, true, true, true, true, true, true, true, false]), (21, .iload 5, 2, none), (23, .if_icmp .gt 94, 3, none), (26, .iconst 0, 1, none), (27, .istore 8, 2, none), (29, .iload 8, 2, some [true, true, true, true, true, true, true, true, true]), (31, .iload 6, 2, none), (33, .if_icmp .gt 78, 3, none), (36, .iload 8, 2, none), (38, .invokestatic 256, 3, none), (41, .iload 7, 2, none), (43, .if_icmp .eq 6, 3, none), (46, .goto 59, 3, none), (49, .aload_n 0, 1, some [true, true, true, true, true, true, true, true, true]), (50, .getfield 41, 3, none), (53, .aload_n 1, 1, none), (54, .invokevirtual 309, 3, none), (57, .aload_n 0, 1, none), (58, .getfield 41, 3, none), (61, .iload_n 2, 1, none), (62, .iload 4, 2, none), (64, .ifCond .eq 13, 3, none), (67, .iload 6, 2, none), (69, .iload 8, 2, none), (71, .iconst (-1), 1, none), (72, .ixor, 1, none), (73, .iand, 1, none), (74, .goto 5, 3, none), (77, .iload 8, 2, some [true, true, true, true, true, true, true, true, true]), (79, .invokevirtual 312, 3, some [true, true, true, true, true, true, true, true, true]), (82, .aload_n 0, 1, none), (83, .getfield 48, 3, none), (86, .aload_n 0, 1, none), (87, .getfield 41, 3, none), (90, .iload_n 2, 1, none), (91, .invokevirtual 152, 3, none), (94, .iconst 0, 1, none), (95, .iload_n 3, 1, none), (96, .invokevirtual 316, 3, none), (99, .ifCond .eq 6, 3, none), (102, .iload 8, 2, none), (104, .ireturn, 1, none), (105, .iinc 8 1, 3, some [true, true, true, true, true, true, true, true, true]), (108, .goto (-79), 3, none), (111, .iinc 7 1, 3, some [true, true, true, true, true, true, true, true, false]), (114, .goto (-95), 3, none), (117, .iconst (-1), 1, some [false, false, false, false, false, false, false, false, false]), (118, .ireturn, 1, none)]
def mi_145 : PI := (8, 9, 1, 5, 8, 4, 110, cd_145)
/-- IllLight.leastIll(LIllLight$Coast;II)I -/
def cd_146 : List (Nat × Instr × Nat × Option (List Bool)) := [(0, .aload_n 1, 1, none), (1, .iload_n 2, 1, none), (2, .iconst 0, 1, none), (3, .invokevirtual 91, 3, none), (6, .ifCond .ne 5, 3, none), (9, .iconst (-1), 1, none), (10, .ireturn, 1, none), (11, .aload_n 0, 1, some [true, true, true, true, false]), (12, .getfield 41, 3, none), (15, .aload_n 1, 1, none), (16, .invokevirtual 309, 3, none), (19, .iconst 0, 1, none), (20, .istore 4, 2, none), (22, .iload 4, 2, some [true, false, true, true, true]), (24, .bipush 9, 2, none), (26, .if_icmp .gt 43, 3, none), (29, .aload_n 0, 1, none), (30, .getfield 41, 3, none), (33, .iload_n 2, 1, none), (34, .iconst 0, 1, none), (35, .iload 4, 2, none), (37, .invokevirtual 320, 3, none), (40, .aload_n 0, 1, none), (41, .getfield 48, 3, none), (44, .aload_n 0, 1, none), (45, .getfield 41, 3, none), (48, .iload_n 2, 1, none), (49, .invokevirtual 152, 3, none), (52, .iconst 0, 1, none), (53, .iload_n 3, 1, none), (54, .invokevirtual 316, 3, none), (57, .ifCond .eq 6, 3, none), (60, .iload 4, 2, none), (62, .ireturn, 1, none), (63, .iinc 4 1, 3, some [true, false, true, true, true]), (66, .goto (-44), 3, none), (69, .iconst (-1), 1, some [false, false, false, false, false]), (70, .ireturn, 1, none)]
def mi_146 : PI := (8, 5, 1, 4, 8, 4, 110, cd_146)
/-- IllLight.leastThrown(LIllLight$Coast;II)I -/
def cd_147 : List (Nat × Instr × Nat × Option (List Bool)) := [(0, .aload_n 0, 1, none), (1, .getfield 41, 3, none), (4, .aload_n 1, 1, none), (5, .invokevirtual 309, 3, none), (8, .iconst 0, 1, none), (9, .istore 4, 2, none), (11, .iload 4, 2, some [true, true, true, true, true]), (13, .aload_n 1, 1, none), (14, .getfield 324, 3, none), (17, .iload_n 2, 1, none), (18, .iaload, 1, none), (19, .if_icmp .gt 50, 3, none), (22, .aload_n 0, 1, none), (23, .getfield 41, 3, none), (26, .getfield 324, 3, none), (29, .iload_n 2, 1, none), (30, .aload_n 1, 1, none), (31, .getfield 324, 3, none), (34, .iload_n 2, 1, none), (35, .iaload, 1, none), (36, .iload 4, 2, none), (38, .isub, 1, none), (39, .iastore, 1, none), (40, .aload_n 0, 1, none), (41, .getfield 48, 3, none), (44, .aload_n 0, 1, none), (45, .getfield 41, 3, none), (48, .iload_n 2, 1, none), (49, .invokevirtual 152, 3, none), (52, .iconst 0, 1, none), (53, .iload_n 3, 1, none), (54, .invokevirtual 316, 3, none), (57, .ifCond .eq 6, 3, none), (60, .iload 4, 2, none), (62, .ireturn, 1, none), (63, .iinc 4 1, 3, some [true, true, true, true, true]), (66, .goto (-55), 3, none), (69, .iconst (-1), 1, some [false, false, false, false, false]), (70, .ireturn, 1, none)]
def mi_147 : PI := (8, 5, 1, 4, 8, 4, 110, cd_147)
/-- IllLight.hoursToLeave(LIllLight$Coast;II)I -/
def cd_148 : List (Nat × Instr × Nat × Option (List Bool)) := [(0, .aload_n 1, 1, none), (1, .iload_n 2, 1, none), (2, .invokevirtual 152, 3, none), (5, .istore 4, 2, none), (7, .iconst 0, 1, none), (8, .istore 5, 2, none), (10, .iconst 0, 1, none), (11, .istore 6, 2, none), (13, .iload 6, 2, some [true, false, false, true, true, true, true]), (15, .bipush 24, 2, none), (17, .if_icmp .ge 33, 3, none), (20, .aload_n 0, 1, none), (21, .getfield 48, 3, none), (24, .iload 4, 2, none), (26, .iload 6, 2, none), (28, .iload_n 3, 1, none), (29, .invokevirtual 316, 3, none), (32, .ifCond .eq 12, 3, none), (35, .iload 5, 2, none), (37, .iconst 1, 1, none), (38, .iload 6, 2, none), (40, .ishl, 1, none), (41, .ior, 1, none), (42, .istore 5, 2, none), (44, .iinc 6 1, 3, some [true, false, false, true, true, true, true]), (47, .goto (-34), 3, none), (50, .iload 5, 2, some [false, false, false, false, false, true, false]), (52, .ireturn, 1, none)]
def mi_148 : PI := (8, 7, 1, 4, 8, 4, 110, cd_148)
/-- IllLight.firstOf(I)I -/
def cd_149 : List (Nat × Instr × Nat × Option (List Bool)) := [(0, .iconst 0, 1, none), (1, .istore_n 1, 1, none), (2, .iload_n 1, 1, some [true, true]), (3, .bipush 24, 2, none), (5, .if_icmp .ge 19, 3, none), (8, .iload_n 0, 1, none), (9, .iload_n 1, 1, none), (10, .ishr, 1, none), (11, .iconst 1, 1, none), (12, .iand, 1, none), (13, .ifCond .eq 5, 3, none), (16, .iload_n 1, 1, none), (17, .ireturn, 1, none), (18, .iinc 1 1, 3, some [true, true]), (21, .goto (-19), 3, none), (24, .iconst (-1), 1, some [false, false]), (25, .ireturn, 1, none)]
def mi_149 : PI := (8, 2, 1, 1, 0, 0, 0, cd_149)
/-- IllLight.longestRow(I)I -/
def cd_150 : List (Nat × Instr × Nat × Option (List Bool)) := [(0, .iconst 0, 1, none), (1, .istore_n 1, 1, none), (2, .iconst 0, 1, none), (3, .istore_n 2, 1, none), (4, .iconst 0, 1, none), (5, .istore_n 3, 1, none), (6, .iload_n 3, 1, some [true, true, true, true]), (7, .bipush 24, 2, none), (9, .if_icmp .ge 31, 3, none), (12, .iload_n 0, 1, none), (13, .iload_n 3, 1, none), (14, .ishr, 1, none), (15, .iconst 1, 1, none), (16, .iand, 1, none), (17, .ifCond .eq 9, 3, none), (20, .iload_n 2, 1, none), (21, .iconst 1, 1, none), (22, .iadd, 1, none), (23, .goto 4, 3, none), (26, .iconst 0, 1, some [true, true, false, true]), (27, .istore_n 2, 1, some [true, true, false, true]), (28, .iload_n 1, 1, none), (29, .iload_n 2, 1, none), (30, .invokestatic 327, 3, none), (33, .istore_n 1, 1, none), (34, .iinc 3 1, 3, none), (37, .goto (-31), 3, none), (40, .iload_n 1, 1, some [false, true, false, false]), (41, .ireturn, 1, none)]
def mi_150 : PI := (8, 4, 1, 1, 0, 1, 40, cd_150)
/-- IllLight.leastTerms(JJZ)J -/
def cd_151 : List (Nat × Instr × Nat × Option (List Bool)) := [(0, .lload_n 2, 1, none), (1, .lconst 0, 1, none), (2, .lcmp, 1, none), (3, .ifCond .ne 14, 3, none), (6, .iload 4, 2, none), (8, .ifCond .eq 7, 3, none), (11, .lconst 1, 1, none), (12, .goto 4, 3, none), (15, .lconst 0, 1, some [false, false, false, false, false, false, false]), (16, .lreturn, 1, some [false, false, false, false, false, false, false]), (17, .lload_n 0, 1, some [true, false, true, false, true, false, false]), (18, .lload_n 2, 1, none), (19, .invokestatic 332, 3, none), (22, .lstore 5, 2, none), (24, .lload 5, 2, none), (26, .lconst 0, 1, none), (27, .lcmp, 1, none), (28, .ifCond .ne 7, 3, none), (31, .ldc2_w 200, 3, none), (34, .lreturn, 1, none), (35, .iload 4, 2, some [true, false, true, false, true, true, false]), (37, .ifCond .eq 7, 3, none), (40, .lload_n 2, 1, none), (41, .goto 4, 3, none), (44, .lload_n 0, 1, some [true, false, false, false, false, true, false]), (45, .lload 5, 2, some [false, false, false, false, false, true, false]), (47, .ldiv, 1, none), (48, .lreturn, 1, none)]
def mi_151 : PI := (8, 7, 3, 3, 0, 1, 26, cd_151)
/-- IllLight.commonDivisor(JJ)J -/
def cd_152 : List (Nat × Instr × Nat × Option (List Bool)) := [(0, .iconst 0, 1, none), (1, .istore 4, 2, none), (3, .iload 4, 2, some [true, false, true, false, true, false, false]), (5, .sipush 1000, 3, none), (8, .if_icmp .ge 25, 3, none), (11, .lload_n 2, 1, none), (12, .lconst 0, 1, none), (13, .lcmp, 1, none), (14, .ifCond .eq 19, 3, none), (17, .lload_n 0, 1, none), (18, .lload_n 2, 1, none), (19, .lrem, 1, none), (20, .lstore 5, 2, none), (22, .lload_n 2, 1, none), (23, .lstore_n 0, 1, none), (24, .lload 5, 2, none), (26, .lstore_n 2, 1, none), (27, .iinc 4 1, 3, none), (30, .goto (-27), 3, none), (33, .lload_n 0, 1, some [true, false, false, false, false, false, false]), (34, .lreturn, 1, none)]
def mi_152 : PI := (8, 7, 3, 2, 0, 0, 0, cd_152)
/-- IllLightModel.isIn(III)Z -/
def cd_153 : List (Nat × Instr × Nat × Option (List Bool)) := [(0, .iload_n 0, 1, none), (1, .iload_n 1, 1, none), (2, .if_icmp .lt 12, 3, none), (5, .iload_n 0, 1, none), (6, .iload_n 2, 1, none), (7, .if_icmp .gt 7, 3, none), (10, .iconst 1, 1, none), (11, .goto 4, 3, none), (14, .iconst 0, 1, some [false, false, false]), (15, .ireturn, 1, some [false, false, false])]
def mi_153 : PI := (9, 3, 2, 3, 0, 0, 0, cd_153)
/-- IllLightModel.feed(IIIII)I -/
def cd_154 : List (Nat × Instr × Nat × Option (List Bool)) := [(0, .aload_n 0, 1, none), (1, .getfield 7, 3, none), (4, .iconst 4, 1, none), (5, .iaload, 1, none), (6, .bipush 20, 2, none), (8, .iadd, 1, none), (9, .sipush 600, 3, none), (12, .if_icmp .le 5, 3, none), (15, .iconst (-1), 1, none), (16, .ireturn, 1, none), (17, .iconst 0, 1, some [true, true, true, true, true, true, false, false]), (18, .istore 6, 2, none), (20, .iload 6, 2, some [true, true, true, true, true, true, true, false]), (22, .bipush 20, 2, none), (24, .if_icmp .ge 98, 3, none), (27, .iload 6, 2, none), (29, .iconst 4, 1, none), (30, .if_icmp .ge 7, 3, none), (33, .iload_n 1, 1, none), (34, .goto 39, 3, none), (37, .iload 6, 2, some [true, true, true, true, true, true, true, false]), (39, .bipush 8, 2, none), (41, .if_icmp .ge 7, 3, none), (44, .iload_n 2, 1, none), (45, .goto 28, 3, none), (48, .iload 6, 2, some [true, true, true, true, true, true, true, false]), (50, .bipush 12, 2, none), (52, .if_icmp .ge 7, 3, none), (55, .iload_n 3, 1, none), (56, .goto 17, 3, none), (59, .iload 6, 2, some [true, true, true, true, true, true, true, false]), (61, .bipush 16, 2, none), (63, .if_icmp .ge 8, 3, none), (66, .iload 4, 2, none), (68, .goto 5, 3, none), (71, .iload 5, 2, some [true, true, true, true, true, true, true, false]), (73, .istore 7, 2, some [true, true, true, true, true, true, true, false]), (75, .aload_n 0, 1, none), (76, .getfield 7, 3, none), (79, .bipush 10, 2, none), (81, .aload_n 0, 1, none), (82, .getfield 7, 3, none), (85, .iconst 4, 1, none), (86, .iaload, 1, none), (87, .iadd, 1, none), (88, .iload 7, 2, none), (90, .bipush 24, 2, none), (92, .bipush 8, 2, none), (94, .iload 6, 2, none), (96, .iconst 4, 1, none), (97, .irem, 1, none), (98, .imul, 1, none), (99, .isub, 1, none), (100, .ishr, 1, none), (101, .sipush 255, 3, none), (104, .iand, 1, none), (105, .iastore, 1, none), (106, .aload_n 0, 1, none), (107, .getfield 7, 3, none), (110, .iconst 4, 1, none), (111, .dup2, 1, none), (112, .iaload, 1, none), (113, .iconst 1, 1, none), (114, .iadd, 1, none), (115, .iastore, 1, none), (116, .iinc 6 1, 3, none), (119, .goto (-99), 3, none), (122, .aload_n 0, 1, some [true, false, false, false, false, false, false, false]), (123, .getfield 7, 3, none), (126, .iconst 4, 1, none), (127, .iaload, 1, none), (128, .ireturn, 1, none)]
def mi_154 : PI := (9, 8, 1, 6, 9, 0, 0, cd_154)
/-- IllLightModel.end(I)I -/
def cd_155 : List (Nat × Instr × Nat × Option (List Bool)) := [(0, .iload_n 1, 1, none), (1, .ifCond .lt 13, 3, none), (4, .iload_n 1, 1, none), (5, .aload_n 0, 1, none), (6, .getfield 7, 3, none), (9, .iconst 4, 1, none), (10, .iaload, 1, none), (11, .if_icmp .le 5, 3, none), (14, .iconst (-1), 1, some [false, false]), (15, .ireturn, 1, none), (16, .aload_n 0, 1, some [true, true]), (17, .getfield 7, 3, none), (20, .iconst 4, 1, none), (21, .iload_n 1, 1, none), (22, .iastore, 1, none), (23, .iload_n 1, 1, none), (24, .ireturn, 1, none)]
def mi_155 : PI := (9, 2, 1, 2, 9, 0, 0, cd_155)
/-- IllLightModel.byteAt(I)I -/
def cd_156 : List (Nat × Instr × Nat × Option (List Bool)) := [(0, .iload_n 1, 1, none), (1, .aload_n 0, 1, none), (2, .getfield 44, 3, none), (5, .if_icmp .ge 15, 3, none), (8, .aload_n 0, 1, none), (9, .getfield 7, 3, none), (12, .bipush 10, 2, none), (14, .iload_n 1, 1, none), (15, .iadd, 1, none), (16, .iaload, 1, none), (17, .goto 4, 3, none), (20, .iconst (-1), 1, some [false, false]), (21, .ireturn, 1, some [false, false])]
def mi_156 : PI := (9, 2, 1, 2, 9, 0, 0, cd_156)
/-- IllLightModel.isLetter(I)Z -/
def cd_157 : List (Nat × Instr × Nat × Option (List Bool)) := [(0, .iload_n 0, 1, none), (1, .bipush 97, 2, none), (3, .if_icmp .lt 13, 3, none), (6, .iload_n 0, 1, none), (7, .bipush 122, 2, none), (9, .if_icmp .gt 7, 3, none), (12, .iconst 1, 1, none), (13, .goto 4, 3, none), (16, .iconst 0, 1, some [false]), (17, .ireturn, 1, some [false])]
def mi_157 : PI := (9, 1, 2, 1, 0, 0, 0, cd_157)
/-- IllLightModel.isDigit(I)Z -/
def cd_158 : List (Nat × Instr × Nat × Option (List Bool)) := [(0, .iload_n 0, 1, none), (1, .bipush 48, 2, none), (3, .if_icmp .lt 13, 3, none), (6, .iload_n 0, 1, none), (7, .bipush 57, 2, none), (9, .if_icmp .gt 7, 3, none), (12, .iconst 1, 1, none), (13, .goto 4, 3, none), (16, .iconst 0, 1, some [false]), (17, .ireturn, 1, some [false])]
def mi_158 : PI := (9, 1, 2, 1, 0, 0, 0, cd_158)
/-- IllLightModel.four(IIII)J -/
def cd_159 : List (Nat × Instr × Nat × Option (List Bool)) := [(0, .iload_n 0, 1, none), (1, .bipush 32, 2, none), (3, .imul, 1, none), (4, .iload_n 1, 1, none), (5, .iadd, 1, none), (6, .bipush 32, 2, none), (8, .imul, 1, none), (9, .iload_n 2, 1, none), (10, .iadd, 1, none), (11, .bipush 32, 2, none), (13, .imul, 1, none), (14, .iload_n 3, 1, none), (15, .iadd, 1, none), (16, .i2l, 1, none), (17, .lreturn, 1, none)]
def mi_159 : PI := (9, 4, 3, 4, 0, 0, 0, cd_159)
/-- IllLightModel.eight(IIIIIIII)J -/
def cd_160 : List (Nat × Instr × Nat × Option (List Bool)) := [(0, .iload_n 0, 1, none), (1, .iload_n 1, 1, none), (2, .iload_n 2, 1, none), (3, .iload_n 3, 1, none), (4, .invokestatic 48, 3, none), (7, .ldc2_w 52, 3, none), (10, .lmul, 1, none), (11, .iload 4, 2, none), (13, .iload 5, 2, none), (15, .iload 6, 2, none), (17, .iload 7, 2, none), (19, .invokestatic 48, 3, none), (22, .ladd, 1, none), (23, .lreturn, 1, none)]
def mi_160 : PI := (9, 8, 3, 8, 0, 1, 23, cd_160)
/-- IllLightModel.wordOf(J)I -/
def cd_161 : List (Nat × Instr × Nat × Option (List Bool)) := [(0, .lload_n 0, 1, none), (1, .bipush 19, 2, none), (3, .bipush 9, 2, none), (5, .bipush 26, 2, none), (7, .iconst 5, 1, none), (8, .invokestatic 48, 3, none), (11, .lcmp, 1, none), (12, .ifCond .ne 5, 3, none), (15, .iconst 1, 1, none), (16, .ireturn, 1, none), (17, .lload_n 0, 1, some [true, false]), (18, .bipush 12, 2, none), (20, .iconst 1, 1, none), (21, .bipush 13, 2, none), (23, .bipush 16, 2, none), (25, .invokestatic 48, 3, none), (28, .lcmp, 1, none), (29, .ifCond .ne 5, 3, none), (32, .iconst 2, 1, none), (33, .ireturn, 1, none), (34, .lload_n 0, 1, some [true, false]), (35, .bipush 18, 2, none), (37, .bipush 15, 2, none), (39, .iconst 3, 1, none), (40, .bipush 11, 2, none), (42, .invokestatic 48, 3, none), (45, .lcmp, 1, none), (46, .ifCond .ne 5, 3, none), (49, .iconst 3, 1, none), (50, .ireturn, 1, none), (51, .lload_n 0, 1, some [true, false]), (52, .iconst 0, 1, none), (53, .iconst 0, 1, none), (54, .iconst 0, 1, none), (55, .bipush 7, 2, none), (57, .bipush 21, 2, none), (59, .iconst 1, 1, none), (60, .bipush 18, 2, none), (62, .iconst 4, 1, none), (63, .invokestatic 54, 3, none), (66, .lcmp, 1, none), (67, .ifCond .ne 5, 3, none), (70, .iconst 4, 1, none), (71, .ireturn, 1, none), (72, .lload_n 0, 1, some [true, false]), (73, .bipush 19, 2, none), (75, .bipush 8, 2, none), (77, .bipush 9, 2, none), (79, .bipush 16, 2, none), (81, .invokestatic 48, 3, none), (84, .lcmp, 1, none), (85, .ifCond .ne 5, 3, none), (88, .iconst 5, 1, none), (89, .ireturn, 1, none), (90, .lload_n 0, 1, some [true, false]), (91, .iconst 0, 1, none), (92, .iconst 0, 1, none), (93, .iconst 0, 1, none), (94, .bipush 16, 2, none), (96, .bipush 12, 2, none), (98, .iconst 1, 1, none), (99, .bipush 9, 2, none), (101, .bipush 14, 2, none), (103, .invokestatic 54, 3, none), (106, .lcmp, 1, none), (107, .ifCond .ne 6, 3, none), (110, .bipush 6, 2, none), (112, .ireturn, 1, none), (113, .lload_n 0, 1, some [true, false]), (114, .iconst 0, 1, none), (115, .iconst 0, 1, none), (116, .iconst 0, 1, none), (117, .bipush 8, 2, none), (119, .bipush 9, 2, none), (121, .bipush 18, 2, none), (123, .iconst 5, 1, none), (124, .iconst 4, 1, none), (125, .invokestatic 54, 3, none), (128, .lcmp, 1, none), (129, .ifCond .ne 6, 3, none), (132, .bipush 7, 2, none), (134, .ireturn, 1, none), (135, .lload_n 0, 1, some [true, false]), (136, .bipush 12, 2, none), (138, .iconst 1, 1, none), (139, .bipush 20, 2, none), (141, .iconst 5, 1, none), (142, .invokestatic 48, 3, none), (145, .lcmp, 1, none), (146, .ifCond .ne 6, 3, none), (149, .bipush 8, 2, none), (151, .ireturn, 1, none), (152, .lload_n 0, 1, some [true, false]), (153, .iconst 0, 1, none), (154, .iconst 4, 1, none), (155, .bipush 9, 2, none), (157, .bipush 22, 2, none), (159, .bipush 9, 2, none), (161, .iconst 4, 1, none), (162, .iconst 5, 1, none), (163, .iconst 4, 1, none), (164, .invokestatic 54, 3, none), (167, .lcmp, 1, none), (168, .ifCond .ne 6, 3, none), (171, .bipush 9, 2, none), (173, .ireturn, 1, none), (174, .lload_n 0, 1, some [true, false]), (175, .iconst 0, 1, none), (176, .iconst 0, 1, none), (177, .iconst 1, 1, none), (178, .bipush 19, 2, none), (180, .bipush 12, 2, none), (182, .iconst 5, 1, none), (183, .iconst 5, 1, none), (184, .bipush 16, 2, none), (186, .invokestatic 54, 3, none), (189, .lcmp, 1, none), (190, .ifCond .ne 6, 3, none), (193, .bipush 10, 2, none), (195, .ireturn, 1, none), (196, .lload_n 0, 1, some [true, false]), (197, .iconst 0, 1, none), (198, .iconst 0, 1, none), (199, .iconst 0, 1, none), (200, .bipush 12, 2, none), (202, .bipush 15, 2, none), (204, .bipush 25, 2, none), (206, .iconst 1, 1, none), (207, .bipush 12, 2, none), (209, .invokestatic 54, 3, none), (212, .lcmp, 1, none), (213, .ifCond .ne 6, 3, none), (216, .bipush 11, 2, none), (218, .ireturn, 1, none), (219, .lload_n 0, 1, some [true, false]), (220, .iconst 0, 1, none), (221, .iconst 0, 1, none), (222, .iconst 0, 1, none), (223, .bipush 12, 2, none), (225, .bipush 9, 2, none), (227, .bipush 13, 2, none), (229, .bipush 9, 2, none), (231, .bipush 20, 2, none), (233, .invokestatic 54, 3, none), (236, .lcmp, 1, none), (237, .ifCond .ne 6, 3, none), (240, .bipush 12, 2, none), (242, .ireturn, 1, none), (243, .lload_n 0, 1, some [true, false]), (244, .iconst 0, 1, none), (245, .bipush 13, 2, none), (247, .iconst 1, 1, none), (248, .bipush 14, 2, none), (250, .invokestatic 48, 3, none), (253, .lcmp, 1, none), (254, .ifCond .ne 6, 3, none), (257, .bipush 13, 2, none), (259, .ireturn, 1, none), (260, .lload_n 0, 1, some [true, false]), (261, .iconst 0, 1, none), (262, .iconst 0, 1, none), (263, .iconst 5, 1, none), (264, .bipush 18, 2, none), (266, .bipush 18, 2, none), (268, .bipush 15, 2, none), (270, .bipush 18, 2, none), (272, .bipush 19, 2, none), (274, .invokestatic 54, 3, none), (277, .lcmp, 1, none), (278, .ifCond .ne 6, 3, none), (281, .bipush 14, 2, none), (283, .ireturn, 1, none), (284, .lload_n 0, 1, some [true, false]), (285, .iconst 0, 1, none), (286, .bipush 12, 2, none), (288, .bipush 9, 2, none), (290, .bipush 20, 2, none), (292, .invokestatic 48, 3, none), (295, .lcmp, 1, none), (296, .ifCond .ne 6, 3, none), (299, .bipush 15, 2, none), (301, .ireturn, 1, none), (302, .lload_n 0, 1, some [true, false]), (303, .iconst 4, 1, none), (304, .iconst 1, 1, none), (305, .bipush 18, 2, none), (307, .bipush 11, 2, none), (309, .invokestatic 48, 3, none), (312, .lcmp, 1, none), (313, .ifCond .ne 6, 3, none), (316, .bipush 16, 2, none), (318, .ireturn, 1, none), (319, .lload_n 0, 1, some [true, false]), (320, .iconst 0, 1, none), (321, .iconst 0, 1, none), (322, .bipush 7, 2, none), (324, .bipush 15, 2, none), (326, .invokestatic 48, 3, none), (329, .lcmp, 1, none), (330, .ifCond .ne 6, 3, none), (333, .bipush 17, 2, none), (335, .ireturn, 1, none), (336, .lload_n 0, 1, some [true, false]), (337, .bipush 13, 2, none), (339, .iconst 5, 1, none), (340, .iconst 1, 1, none), (341, .bipush 14, 2, none), (343, .invokestatic 48, 3, none), (346, .lcmp, 1, none), (347, .ifCond .ne 6, 3, none), (350, .bipush 18, 2, none), (352, .ireturn, 1, none), (353, .lload_n 0, 1, some [true, false]), (354, .iconst 0, 1, none), (355, .iconst 0, 1, none), (356, .iconst 0, 1, none), (357, .bipush 20, 2, none), (359, .bipush 8, 2, none), (361, .bipush 18, 2, none), (363, .bipush 15, 2, none), (365, .bipush 23, 2, none), (367, .invokestatic 54, 3, none), (370, .lcmp, 1, none), (371, .ifCond .ne 6, 3, none), (374, .bipush 19, 2, none), (376, .ireturn, 1, none), (377, .lload_n 0, 1, some [true, false]), (378, .bipush 8, 2, none), (380, .bipush 15, 2, none), (382, .bipush 21, 2, none), (384, .bipush 18, 2, none), (386, .invokestatic 48, 3, none), (389, .lcmp, 1, none), (390, .ifCond .ne 8, 3, none), (393, .bipush 20, 2, none), (395, .goto 5, 3, none), (398, .bipush 99, 2, some [false, false]), (400, .ireturn, 1, some [false, false])]
def mi_161 : PI := (9, 2, 1, 1, 0, 2, 50, cd_161)
/-- IllLightModel.advance()V -/
def cd_162 : List (Nat × Instr × Nat × Option (List Bool)) := [(0, .aload_n 0, 1, some [true, false, false, false]), (1, .aload_n 0, 1, none), (2, .getfield 58, 3, none), (5, .invokevirtual 61, 3, none), (8, .bipush 10, 2, none), (10, .if_icmp .eq 16, 3, none), (13, .aload_n 0, 1, none), (14, .aload_n 0, 1, none), (15, .getfield 58, 3, none), (18, .invokevirtual 61, 3, none), (21, .bipush 32, 2, none), (23, .if_icmp .ne 16, 3, none), (26, .aload_n 0, 1, some [true, false, false, false]), (27, .dup, 1, none), (28, .getfield 58, 3, none), (31, .iconst 1, 1, none), (32, .iadd, 1, none), (33, .putfield 58, 3, none), (36, .goto (-36), 3, none), (39, .aload_n 0, 1, some [true, false, false, false]), (40, .aload_n 0, 1, none), (41, .getfield 58, 3, none), (44, .putfield 65, 3, none), (47, .aload_n 0, 1, none), (48, .aload_n 0, 1, none), (49, .getfield 58, 3, none), (52, .invokevirtual 61, 3, none), (55, .istore_n 1, 1, none), (56, .iload_n 1, 1, none), (57, .ifCond .ge 11, 3, none), (60, .aload_n 0, 1, none), (61, .iconst 0, 1, none), (62, .putfield 68, 3, none), (65, .goto 246, 3, none), (68, .iload_n 1, 1, some [true, true, false, false]), (69, .invokestatic 71, 3, none), (72, .ifCond .eq 114, 3, none), (75, .lconst 0, 1, none), (76, .lstore_n 2, 1, none), (77, .aload_n 0, 1, some [true, false, true, false]), (78, .aload_n 0, 1, none), (79, .getfield 58, 3, none), (82, .invokevirtual 61, 3, none), (85, .invokestatic 71, 3, none), (88, .ifCond .eq 50, 3, none), (91, .aload_n 0, 1, none), (92, .getfield 58, 3, none), (95, .aload_n 0, 1, none), (96, .getfield 65, 3, none), (99, .isub, 1, none), (100, .bipush 8, 2, none), (102, .if_icmp .ge 23, 3, none), (105, .ldc2_w 75, 3, none), (108, .lload_n 2, 1, none), (109, .lmul, 1, none), (110, .aload_n 0, 1, none), (111, .aload_n 0, 1, none), (112, .getfield 58, 3, none), (115, .invokevirtual 61, 3, none), (118, .i2l, 1, none), (119, .ladd, 1, none), (120, .ldc2_w 77, 3, none), (123, .lsub, 1, none), (124, .lstore_n 2, 1, none), (125, .aload_n 0, 1, some [true, false, true, false]), (126, .dup, 1, none), (127, .getfield 58, 3, none), (130, .iconst 1, 1, none), (131, .iadd, 1, none), (132, .putfield 58, 3, none), (135, .goto (-58), 3, none), (138, .aload_n 0, 1, some [true, false, true, false]), (139, .aload_n 0, 1, none), (140, .getfield 58, 3, none), (143, .aload_n 0, 1, none), (144, .getfield 65, 3, none), (147, .isub, 1, none), (148, .bipush 8, 2, none), (150, .if_icmp .le 8, 3, none), (153, .bipush 99, 2, none), (155, .goto 7, 3, none), (158, .lload_n 2, 1, some [true, false, true, false]), (159, .invokestatic 79, 3, none), (162, .putfield 83, 3, some [true, false, false, false]), (165, .aload_n 0, 1, none), (166, .aload_n 0, 1, none), (167, .getfield 83, 3, none), (170, .bipush 99, 2, none), (172, .if_icmp .ne 7, 3, none), (175, .iconst 4, 1, none), (176, .goto 4, 3, none), (179, .iconst 3, 1, some [false, false, false, false]), (180, .putfield 68, 3, some [false, false, false, false]), (183, .goto 128, 3, none), (186, .iload_n 1, 1, some [true, true, false, false]), (187, .invokestatic 86, 3, none), (190, .ifCond .eq 96, 3, none), (193, .aload_n 0, 1, none), (194, .iconst 0, 1, none), (195, .putfield 89, 3, none), (198, .aload_n 0, 1, some [true, false, false, false]), (199, .aload_n 0, 1, none), (200, .getfield 58, 3, none), (203, .invokevirtual 61, 3, none), (206, .invokestatic 86, 3, none), (209, .ifCond .eq 52, 3, none), (212, .aload_n 0, 1, none), (213, .getfield 58, 3, none), (216, .aload_n 0, 1, none), (217, .getfield 65, 3, none), (220, .isub, 1, none), (221, .iconst 2, 1, none), (222, .if_icmp .ge 26, 3, none), (225, .aload_n 0, 1, none), (226, .bipush 10, 2, none), (228, .aload_n 0, 1, none), (229, .getfield 89, 3, none), (232, .imul, 1, none), (233, .aload_n 0, 1, none), (234, .aload_n 0, 1, none), (235, .getfield 58, 3, none), (238, .invokevirtual 61, 3, none), (241, .iadd, 1, none), (242, .bipush 48, 2, none), (244, .isub, 1, none), (245, .putfield 89, 3, none), (248, .aload_n 0, 1, some [true, false, false, false]), (249, .dup, 1, none), (250, .getfield 58, 3, none), (253, .iconst 1, 1, none), (254, .iadd, 1, none), (255, .putfield 58, 3, none), (258, .goto (-60), 3, none), (261, .aload_n 0, 1, some [true, false, false, false]), (262, .aload_n 0, 1, none), (263, .getfield 58, 3, none), (266, .aload_n 0, 1, none), (267, .getfield 65, 3, none), (270, .isub, 1, none), (271, .iconst 2, 1, none), (272, .if_icmp .le 7, 3, none), (275, .iconst 4, 1, none), (276, .goto 4, 3, none), (279, .iconst 1, 1, some [false, false, false, false]), (280, .putfield 68, 3, some [false, false, false, false]), (283, .goto 28, 3, none), (286, .aload_n 0, 1, some [true, true, false, false]), (287, .dup, 1, none), (288, .getfield 58, 3, none), (291, .iconst 1, 1, none), (292, .iadd, 1, none), (293, .putfield 58, 3, none), (296, .aload_n 0, 1, none), (297, .iload_n 1, 1, none), (298, .bipush 59, 2, none), (300, .if_icmp .ne 7, 3, none), (303, .iconst 2, 1, none), (304, .goto 4, 3, none), (307, .iconst 4, 1, some [false, false, false, false]), (308, .putfield 68, 3, some [false, false, false, false]), (311, .return_, 1, some [false, false, false, false])]
def mi_162 : PI := (9, 4, 0, 1, 9, 3, 71, cd_162)
/-- IllLightModel.ends()V -/
def cd_163 : List (Nat × Instr × Nat × Option (List Bool)) := [(0, .aload_n 0, 1, none), (1, .getfield 92, 3, none), (4, .ifCond .eq 4, 3, none), (7, .return_, 1, none), (8, .aload_n 0, 1, some [true]), (9, .iconst 1, 1, none), (10, .putfield 92, 3, none), (13, .aload_n 0, 1, none), (14, .getfield 7, 3, none), (17, .iconst 5, 1, none), (18, .iconst 1, 1, none), (19, .iastore, 1, none), (20, .aload_n 0, 1, none), (21, .getfield 7, 3, none), (24, .bipush 6, 2, none), (26, .aload_n 0, 1, none), (27, .getfield 65, 3, none), (30, .iastore, 1, none), (31, .return_, 1, none)]
def mi_163 : PI := (9, 1, 0, 1, 9, 0, 0, cd_163)
/-- IllLightModel.also(II)V -/
def cd_164 : List (Nat × Instr × Nat × Option (List Bool)) := [(0, .aload_n 0, 1, none), (1, .getfield 92, 3, none), (4, .ifCond .ne 44, 3, none), (7, .aload_n 0, 1, none), (8, .getfield 7, 3, none), (11, .iconst 5, 1, none), (12, .iaload, 1, none), (13, .ifCond .eq 36, 3, none), (16, .aload_n 0, 1, none), (17, .getfield 7, 3, none), (20, .bipush 6, 2, none), (22, .iaload, 1, none), (23, .iload_n 2, 1, none), (24, .if_icmp .lt 24, 3, none), (27, .aload_n 0, 1, none), (28, .getfield 7, 3, none), (31, .bipush 6, 2, none), (33, .iaload, 1, none), (34, .iload_n 2, 1, none), (35, .if_icmp .ne 14, 3, none), (38, .aload_n 0, 1, none), (39, .getfield 7, 3, none), (42, .iconst 5, 1, none), (43, .iaload, 1, none), (44, .iload_n 1, 1, none), (45, .if_icmp .gt 4, 3, none), (48, .return_, 1, some [false, false, false]), (49, .aload_n 0, 1, some [true, true, true]), (50, .getfield 7, 3, none), (53, .iconst 5, 1, none), (54, .iload_n 1, 1, none), (55, .iastore, 1, none), (56, .aload_n 0, 1, none), (57, .getfield 7, 3, none), (60, .bipush 6, 2, none), (62, .iload_n 2, 1, none), (63, .iastore, 1, none), (64, .return_, 1, none)]
def mi_164 : PI := (9, 3, 0, 3, 9, 0, 0, cd_164)
/-- IllLightModel.numbered(II)I -/
def cd_165 : List (Nat × Instr × Nat × Option (List Bool)) := [(0, .aload_n 0, 1, none), (1, .getfield 92, 3, none), (4, .ifCond .ne 11, 3, none), (7, .aload_n 0, 1, none), (8, .getfield 68, 3, none), (11, .iconst 1, 1, none), (12, .if_icmp .eq 9, 3, none), (15, .aload_n 0, 1, some [true, true, false, false]), (16, .invokevirtual 96, 3, none), (19, .iload_n 1, 1, none), (20, .ireturn, 1, none), (21, .aload_n 0, 1, some [true, true, true, false]), (22, .getfield 89, 3, none), (25, .istore_n 3, 1, none), (26, .iload_n 3, 1, none), (27, .iload_n 1, 1, none), (28, .iload_n 2, 1, none), (29, .invokestatic 99, 3, none), (32, .ifCond .ne 12, 3, none), (35, .aload_n 0, 1, none), (36, .iconst 2, 1, none), (37, .aload_n 0, 1, none), (38, .getfield 65, 3, none), (41, .invokevirtual 103, 3, none), (44, .aload_n 0, 1, some [true, true, true, true]), (45, .invokevirtual 107, 3, none), (48, .iload_n 3, 1, none), (49, .iload_n 1, 1, none), (50, .iload_n 2, 1, none), (51, .invokestatic 99, 3, none), (54, .ifCond .eq 7, 3, none), (57, .iload_n 3, 1, none), (58, .goto 4, 3, none), (61, .iload_n 1, 1, some [false, true, false, false]), (62, .ireturn, 1, some [false, false, false, false])]
def mi_165 : PI := (9, 4, 1, 3, 9, 4, 94, cd_165)
/-- IllLightModel.takes(II)I -/
def cd_166 : List (Nat × Instr × Nat × Option (List Bool)) := [(0, .aload_n 0, 1, none), (1, .getfield 92, 3, none), (4, .ifCond .ne 23, 3, none), (7, .aload_n 0, 1, none), (8, .getfield 68, 3, none), (11, .iconst 3, 1, none), (12, .if_icmp .ne 15, 3, none), (15, .aload_n 0, 1, none), (16, .getfield 83, 3, none), (19, .iload_n 1, 1, none), (20, .iload_n 2, 1, none), (21, .invokestatic 99, 3, none), (24, .ifCond .ne 9, 3, none), (27, .aload_n 0, 1, some [true, false, false, false]), (28, .invokevirtual 96, 3, none), (31, .iconst 0, 1, none), (32, .ireturn, 1, none), (33, .aload_n 0, 1, some [true, false, false, false]), (34, .getfield 83, 3, none), (37, .istore_n 3, 1, none), (38, .aload_n 0, 1, none), (39, .invokevirtual 107, 3, none), (42, .iload_n 3, 1, none), (43, .ireturn, 1, none)]
def mi_166 : PI := (9, 4, 1, 3, 9, 4, 94, cd_166)
/-- IllLightModel.endsLine()V -/
def cd_167 : List (Nat × Instr × Nat × Option (List Bool)) := [(0, .aload_n 0, 1, none), (1, .getfield 92, 3, none), (4, .ifCond .ne 18, 3, none), (7, .aload_n 0, 1, none), (8, .getfield 68, 3, none), (11, .iconst 2, 1, none), (12, .if_icmp .ne 10, 3, none), (15, .aload_n 0, 1, none), (16, .invokevirtual 107, 3, none), (19, .goto 7, 3, none), (22, .aload_n 0, 1, some [true]), (23, .invokevirtual 96, 3, none), (26, .return_, 1, some [false])]
def mi_167 : PI := (9, 1, 0, 1, 9, 4, 94, cd_167)
/-- IllLightModel.cellTold()I -/
def cd_168 : List (Nat × Instr × Nat × Option (List Bool)) := [(0, .aload_n 0, 1, none), (1, .iconst 0, 1, none), (2, .bipush 7, 2, none), (4, .invokevirtual 110, 3, none), (7, .istore_n 1, 1, none), (8, .aload_n 0, 1, none), (9, .iconst 0, 1, none), (10, .bipush 7, 2, none), (12, .invokevirtual 110, 3, none), (15, .istore_n 2, 1, none), (16, .aload_n 0, 1, none), (17, .iload_n 1, 1, none), (18, .aload_n 0, 1, none), (19, .getfield 114, 3, none), (22, .if_icmp .le 7, 3, none), (25, .iload_n 1, 1, none), (26, .goto 7, 3, none), (29, .aload_n 0, 1, some [true, true, true]), (30, .getfield 114, 3, none), (33, .putfield 114, 3, some [true, true, true]), (36, .aload_n 0, 1, none), (37, .iload_n 2, 1, none), (38, .aload_n 0, 1, none), (39, .getfield 117, 3, none), (42, .if_icmp .le 7, 3, none), (45, .iload_n 2, 1, none), (46, .goto 7, 3, none), (49, .aload_n 0, 1, some [true, true, true]), (50, .getfield 117, 3, none), (53, .putfield 117, 3, some [false, true, true]), (56, .bipush 8, 2, none), (58, .iload_n 2, 1, none), (59, .imul, 1, none), (60, .iload_n 1, 1, none), (61, .iadd, 1, none), (62, .ireturn, 1, none)]
def mi_168 : PI := (9, 3, 1, 1, 9, 5, 117, cd_168)
/-- IllLightModel.guardLine(I)V -/
def cd_169 : List (Nat × Instr × Nat × Option (List Bool)) := [(0, .aload_n 0, 1, none), (1, .getfield 17, 3, none), (4, .iconst 4, 1, none), (5, .iaload, 1, none), (6, .iconst 4, 1, none), (7, .if_icmp .ge 7, 3, none), (10, .iconst 1, 1, none), (11, .goto 4, 3, none), (14, .iconst 0, 1, some [true, true, false, false, false]), (15, .istore_n 2, 1, some [true, true, false, false, false]), (16, .iload_n 2, 1, none), (17, .ifCond .ne 9, 3, none), (20, .aload_n 0, 1, none), (21, .iconst 3, 1, none), (22, .iload_n 1, 1, none), (23, .invokevirtual 103, 3, none), (26, .aload_n 0, 1, some [true, false, true, false, false]), (27, .invokevirtual 120, 3, none), (30, .istore_n 3, 1, none), (31, .aload_n 0, 1, none), (32, .iconst 0, 1, none), (33, .bipush 7, 2, none), (35, .invokevirtual 110, 3, none), (38, .istore 4, 2, none), (40, .iload_n 2, 1, none), (41, .ifCond .ne 4, 3, none), (44, .return_, 1, none), (45, .aload_n 0, 1, some [true, false, false, true, true]), (46, .getfield 17, 3, none), (49, .bipush 6, 2, none), (51, .iconst 2, 1, none), (52, .aload_n 0, 1, none), (53, .getfield 17, 3, none), (56, .iconst 4, 1, none), (57, .iaload, 1, none), (58, .imul, 1, none), (59, .iadd, 1, none), (60, .iload_n 3, 1, none), (61, .iastore, 1, none), (62, .aload_n 0, 1, none), (63, .getfield 17, 3, none), (66, .bipush 6, 2, none), (68, .iconst 2, 1, none), (69, .aload_n 0, 1, none), (70, .getfield 17, 3, none), (73, .iconst 4, 1, none), (74, .iaload, 1, none), (75, .imul, 1, none), (76, .iadd, 1, none), (77, .iconst 1, 1, none), (78, .iadd, 1, none), (79, .iload 4, 2, none), (81, .iastore, 1, none), (82, .aload_n 0, 1, none), (83, .getfield 17, 3, none), (86, .iconst 4, 1, none), (87, .dup2, 1, none), (88, .iaload, 1, none), (89, .iconst 1, 1, none), (90, .iadd, 1, none), (91, .iastore, 1, none), (92, .return_, 1, none)]
def mi_169 : PI := (9, 5, 0, 2, 9, 6, 139, cd_169)
/-- IllLightModel.shipLine(I)V -/
def cd_170 : List (Nat × Instr × Nat × Option (List Bool)) := [(0, .aload_n 0, 1, none), (1, .getfield 17, 3, none), (4, .iconst 5, 1, none), (5, .iaload, 1, none), (6, .iconst 4, 1, none), (7, .if_icmp .ge 7, 3, none), (10, .iconst 1, 1, none), (11, .goto 4, 3, none), (14, .iconst 0, 1, some [true, true, false, false, false, false, false]), (15, .istore_n 2, 1, some [true, true, false, false, false, false, false]), (16, .iload_n 2, 1, none), (17, .ifCond .ne 9, 3, none), (20, .aload_n 0, 1, none), (21, .iconst 3, 1, none), (22, .iload_n 1, 1, none), (23, .invokevirtual 103, 3, none), (26, .aload_n 0, 1, some [true, false, true, false, false, false, false]), (27, .invokevirtual 120, 3, none), (30, .istore_n 3, 1, none), (31, .aload_n 0, 1, none), (32, .iconst 0, 1, none), (33, .bipush 9, 2, none), (35, .invokevirtual 110, 3, none), (38, .istore 4, 2, none), (40, .aload_n 0, 1, none), (41, .iconst 0, 1, none), (42, .bipush 9, 2, none), (44, .invokevirtual 110, 3, none), (47, .istore 5, 2, none), (49, .iload_n 2, 1, none), (50, .ifCond .ne 4, 3, none), (53, .return_, 1, none), (54, .bipush 14, 2, some [true, false, false, true, true, true, false]), (56, .iconst 4, 1, none), (57, .aload_n 0, 1, none), (58, .getfield 17, 3, none), (61, .iconst 5, 1, none), (62, .iaload, 1, none), (63, .imul, 1, none), (64, .iadd, 1, none), (65, .istore 6, 2, none), (67, .aload_n 0, 1, none), (68, .getfield 17, 3, none), (71, .iload 6, 2, none), (73, .iload_n 3, 1, none), (74, .iastore, 1, none), (75, .aload_n 0, 1, none), (76, .getfield 17, 3, none), (79, .iload 6, 2, none), (81, .iconst 1, 1, none), (82, .iadd, 1, none), (83, .iload 4, 2, none), (85, .iastore, 1, none), (86, .aload_n 0, 1, none), (87, .getfield 17, 3, none), (90, .iload 6, 2, none), (92, .iconst 2, 1, none), (93, .iadd, 1, none), (94, .iload 5, 2, none), (96, .iastore, 1, none), (97, .aload_n 0, 1, none), (98, .getfield 17, 3, none), (101, .iconst 5, 1, none), (102, .dup2, 1, none), (103, .iaload, 1, none), (104, .iconst 1, 1, none), (105, .iadd, 1, none), (106, .iastore, 1, none), (107, .return_, 1, none)]
def mi_170 : PI := (9, 7, 0, 2, 9, 6, 139, cd_170)
/-- IllLightModel.shipTold()I -/
def cd_171 : List (Nat × Instr × Nat × Option (List Bool)) := [(0, .aload_n 0, 1, none), (1, .iconst 0, 1, none), (2, .iconst 3, 1, none), (3, .invokevirtual 110, 3, none), (6, .istore_n 1, 1, none), (7, .aload_n 0, 1, none), (8, .iload_n 1, 1, none), (9, .aload_n 0, 1, none), (10, .getfield 124, 3, none), (13, .if_icmp .le 7, 3, none), (16, .iload_n 1, 1, none), (17, .goto 7, 3, none), (20, .aload_n 0, 1, some [true, true]), (21, .getfield 124, 3, none), (24, .putfield 124, 3, some [false, true]), (27, .iload_n 1, 1, none), (28, .ireturn, 1, none)]
def mi_171 : PI := (9, 2, 1, 1, 9, 5, 117, cd_171)
/-- IllLightModel.manLine(II)V -/
def cd_172 : List (Nat × Instr × Nat × Option (List Bool)) := [(0, .aload_n 0, 1, none), (1, .getfield 17, 3, none), (4, .iconst 5, 1, none), (5, .iaload, 1, none), (6, .iconst 1, 1, none), (7, .isub, 1, none), (8, .istore_n 3, 1, none), (9, .iload_n 3, 1, none), (10, .ifCond .lt 24, 3, none), (13, .aload_n 0, 1, none), (14, .getfield 17, 3, none), (17, .bipush 14, 2, none), (19, .iconst 4, 1, none), (20, .iload_n 3, 1, none), (21, .imul, 1, none), (22, .iadd, 1, none), (23, .iconst 3, 1, none), (24, .iadd, 1, none), (25, .iaload, 1, none), (26, .iconst 4, 1, none), (27, .if_icmp .ge 7, 3, none), (30, .iconst 1, 1, none), (31, .goto 4, 3, none), (34, .iconst 0, 1, some [true, true, true, true, false, false, false, false]), (35, .istore 4, 2, some [true, true, true, true, false, false, false, false]), (37, .iload_n 3, 1, none), (38, .ifCond .ge 9, 3, none), (41, .aload_n 0, 1, none), (42, .iconst 4, 1, none), (43, .iload_n 1, 1, none), (44, .invokevirtual 103, 3, none), (47, .iload_n 3, 1, some [true, true, true, true, true, false, false, false]), (48, .ifCond .lt 14, 3, none), (51, .iload 4, 2, none), (53, .ifCond .ne 9, 3, none), (56, .aload_n 0, 1, none), (57, .iconst 3, 1, none), (58, .iload_n 1, 1, none), (59, .invokevirtual 103, 3, none), (62, .iload_n 2, 1, some [true, false, true, true, true, false, false, false]), (63, .ifCond .eq 13, 3, none), (66, .iload_n 2, 1, none), (67, .iconst 2, 1, none), (68, .if_icmp .eq 8, 3, none), (71, .iload_n 2, 1, none), (72, .iconst 3, 1, none), (73, .if_icmp .ne 13, 3, none), (76, .aload_n 0, 1, some [true, false, true, true, true, false, false, false]), (77, .iconst 0, 1, none), (78, .bipush 9, 2, none), (80, .invokevirtual 110, 3, none), (83, .goto 16, 3, none), (86, .iload_n 2, 1, some [true, false, true, true, true, false, false, false]), (87, .iconst 5, 1, none), (88, .if_icmp .ne 10, 3, none), (91, .aload_n 0, 1, none), (92, .invokevirtual 127, 3, none), (95, .goto 4, 3, none), (98, .iconst 0, 1, some [true, false, true, true, true, false, false, false]), (99, .istore 5, 2, some [true, false, true, true, true, false, false, false]), (101, .iload_n 2, 1, none), (102, .iconst 2, 1, none), (103, .if_icmp .ne 13, 3, none), (106, .aload_n 0, 1, none), (107, .iconst 0, 1, none), (108, .bipush 23, 2, none), (110, .invokevirtual 110, 3, none), (113, .goto 4, 3, none), (116, .iconst 0, 1, some [true, false, true, true, true, true, false, false]), (117, .istore 6, 2, some [true, false, true, true, true, true, false, false]), (119, .iload 4, 2, none), (121, .ifCond .ne 4, 3, none), (124, .return_, 1, none), (125, .bipush 30, 2, some [true, false, true, true, false, true, true, false]), (127, .bipush 12, 2, none), (129, .iload_n 3, 1, none), (130, .imul, 1, none), (131, .iadd, 1, none), (132, .iconst 3, 1, none), (133, .aload_n 0, 1, none), (134, .getfield 17, 3, none), (137, .bipush 14, 2, none), (139, .iconst 4, 1, none), (140, .iload_n 3, 1, none), (141, .imul, 1, none), (142, .iadd, 1, none), (143, .iconst 3, 1, none), (144, .iadd, 1, none), (145, .iaload, 1, none), (146, .imul, 1, none), (147, .iadd, 1, none), (148, .istore 7, 2, none), (150, .aload_n 0, 1, none), (151, .getfield 17, 3, none), (154, .iload 7, 2, none), (156, .iload_n 2, 1, none), (157, .iastore, 1, none), (158, .aload_n 0, 1, none), (159, .getfield 17, 3, none), (162, .iload 7, 2, none), (164, .iconst 1, 1, none), (165, .iadd, 1, none), (166, .iload 5, 2, none), (168, .iastore, 1, none), (169, .aload_n 0, 1, none), (170, .getfield 17, 3, none), (173, .iload 7, 2, none), (175, .iconst 2, 1, none), (176, .iadd, 1, none), (177, .iload 6, 2, none), (179, .iastore, 1, none), (180, .aload_n 0, 1, none), (181, .getfield 17, 3, none), (184, .bipush 14, 2, none), (186, .iconst 4, 1, none), (187, .iload_n 3, 1, none), (188, .imul, 1, none), (189, .iadd, 1, none), (190, .iconst 3, 1, none), (191, .iadd, 1, none), (192, .dup2, 1, none), (193, .iaload, 1, none), (194, .iconst 1, 1, none), (195, .iadd, 1, none), (196, .iastore, 1, none), (197, .return_, 1, none)]
def mi_172 : PI := (9, 8, 0, 3, 9, 6, 138, cd_172)
/-- IllLightModel.coastLine()V -/
def cd_173 : List (Nat × Instr × Nat × Option (List Bool)) := [(0, .aload_n 0, 1, none), (1, .getfield 65, 3, none), (4, .istore_n 1, 1, none), (5, .aload_n 0, 1, none), (6, .iconst 1, 1, none), (7, .bipush 12, 2, none), (9, .invokevirtual 130, 3, none), (12, .istore_n 2, 1, none), (13, .iload_n 2, 1, none), (14, .tableswitch 159 0 12 #[66, 69, 98, 111, 127, 135, 159, 159, 159, 159, 159, 159, 143], 66, none), (80, .goto 102, 3, some [true, false, false]), (83, .aload_n 0, 1, some [true, false, false]), (84, .getfield 17, 3, none), (87, .iconst 0, 1, none), (88, .aload_n 0, 1, none), (89, .iconst 2, 1, none), (90, .bipush 8, 2, none), (92, .invokevirtual 110, 3, none), (95, .iastore, 1, none), (96, .aload_n 0, 1, none), (97, .getfield 17, 3, none), (100, .iconst 1, 1, none), (101, .aload_n 0, 1, none), (102, .iconst 2, 1, none), (103, .bipush 8, 2, none), (105, .invokevirtual 110, 3, none), (108, .iastore, 1, none), (109, .goto 73, 3, none), (112, .aload_n 0, 1, some [true, false, false]), (113, .getfield 17, 3, none), (116, .iconst 2, 1, none), (117, .aload_n 0, 1, none), (118, .invokevirtual 120, 3, none), (121, .iastore, 1, none), (122, .goto 60, 3, none), (125, .aload_n 0, 1, some [true, false, false]), (126, .getfield 17, 3, none), (129, .bipush 78, 2, none), (131, .aload_n 0, 1, none), (132, .invokevirtual 120, 3, none), (135, .iadd, 1, none), (136, .iconst 1, 1, none), (137, .iastore, 1, none), (138, .goto 44, 3, none), (141, .aload_n 0, 1, some [true, true, false]), (142, .iload_n 1, 1, none), (143, .invokevirtual 133, 3, none), (146, .goto 36, 3, none), (149, .aload_n 0, 1, some [true, true, false]), (150, .iload_n 1, 1, none), (151, .invokevirtual 137, 3, none), (154, .goto 28, 3, none), (157, .aload_n 0, 1, some [true, false, false]), (158, .getfield 17, 3, none), (161, .iconst 3, 1, none), (162, .aload_n 0, 1, none), (163, .iconst 1, 1, none), (164, .bipush 20, 2, none), (166, .invokevirtual 110, 3, none), (169, .iastore, 1, none), (170, .goto 12, 3, none), (173, .aload_n 0, 1, some [true, true, true]), (174, .iload_n 1, 1, none), (175, .iload_n 2, 1, none), (176, .bipush 6, 2, none), (178, .isub, 1, none), (179, .invokevirtual 140, 3, none), (182, .aload_n 0, 1, some [true, false, false]), (183, .invokevirtual 143, 3, none), (186, .return_, 1, none)]
def mi_173 : PI := (9, 3, 0, 1, 9, 7, 165, cd_173)
/-- IllLightModel.nightLine()V -/
def cd_174 : List (Nat × Instr × Nat × Option (List Bool)) := [(0, .aload_n 0, 1, none), (1, .getfield 65, 3, none), (4, .istore_n 1, 1, none), (5, .aload_n 0, 1, none), (6, .bipush 17, 2, none), (8, .bipush 20, 2, none), (10, .invokevirtual 130, 3, none), (13, .bipush 17, 2, none), (15, .isub, 1, none), (16, .istore_n 2, 1, none), (17, .aload_n 0, 1, none), (18, .getfield 92, 3, none), (21, .ifCond .ne 20, 3, none), (24, .aload_n 0, 1, none), (25, .getfield 17, 3, none), (28, .iconst 0, 1, none), (29, .iaload, 1, none), (30, .bipush 40, 2, none), (32, .if_icmp .lt 9, 3, none), (35, .aload_n 0, 1, none), (36, .iconst 3, 1, none), (37, .iload_n 1, 1, none), (38, .invokevirtual 103, 3, none), (41, .iload_n 2, 1, some [true, false, true, false, false, false, false]), (42, .iconst 3, 1, none), (43, .if_icmp .ne 7, 3, none), (46, .iconst (-1), 1, none), (47, .goto 9, 3, none), (50, .aload_n 0, 1, some [true, false, true, false, false, false, false]), (51, .iconst 0, 1, none), (52, .iconst 3, 1, none), (53, .invokevirtual 110, 3, none), (56, .istore_n 3, 1, some [true, false, true, false, false, false, false]), (57, .iload_n 2, 1, none), (58, .ifCond .eq 8, 3, none), (61, .iload_n 2, 1, none), (62, .iconst 1, 1, none), (63, .if_icmp .ne 12, 3, none), (66, .aload_n 0, 1, some [true, false, true, true, false, false, false]), (67, .iconst 0, 1, none), (68, .iconst 3, 1, none), (69, .invokevirtual 110, 3, none), (72, .goto 4, 3, none), (75, .iconst (-1), 1, some [true, false, true, true, false, false, false]), (76, .istore 4, 2, some [true, false, true, true, false, false, false]), (78, .iload_n 2, 1, none), (79, .iconst 1, 1, none), (80, .if_icmp .ne 13, 3, none), (83, .aload_n 0, 1, none), (84, .iconst 0, 1, none), (85, .bipush 9, 2, none), (87, .invokevirtual 110, 3, none), (90, .goto 4, 3, none), (93, .iconst (-1), 1, some [true, false, true, true, true, false, false]), (94, .istore 5, 2, some [true, false, true, true, true, false, false]), (96, .aload_n 0, 1, none), (97, .getfield 17, 3, none), (100, .iconst 0, 1, none), (101, .iaload, 1, none), (102, .bipush 40, 2, none), (104, .if_icmp .ge 65, 3, none), (107, .iconst 1, 1, none), (108, .iconst 4, 1, none), (109, .aload_n 0, 1, none), (110, .getfield 17, 3, none), (113, .iconst 0, 1, none), (114, .iaload, 1, none), (115, .imul, 1, none), (116, .iadd, 1, none), (117, .istore 6, 2, none), (119, .aload_n 0, 1, none), (120, .getfield 17, 3, none), (123, .iload 6, 2, none), (125, .iload_n 2, 1, none), (126, .iastore, 1, none), (127, .aload_n 0, 1, none), (128, .getfield 17, 3, none), (131, .iload 6, 2, none), (133, .iconst 1, 1, none), (134, .iadd, 1, none), (135, .iload_n 3, 1, none), (136, .iastore, 1, none), (137, .aload_n 0, 1, none), (138, .getfield 17, 3, none), (141, .iload 6, 2, none), (143, .iconst 2, 1, none), (144, .iadd, 1, none), (145, .iload 4, 2, none), (147, .iastore, 1, none), (148, .aload_n 0, 1, none), (149, .getfield 17, 3, none), (152, .iload 6, 2, none), (154, .iconst 3, 1, none), (155, .iadd, 1, none), (156, .iload 5, 2, none), (158, .iastore, 1, none), (159, .aload_n 0, 1, none), (160, .getfield 17, 3, none), (163, .iconst 0, 1, none), (164, .dup2, 1, none), (165, .iaload, 1, none), (166, .iconst 1, 1, none), (167, .iadd, 1, none), (168, .iastore, 1, none), (169, .aload_n 0, 1, some [true, false, false, false, false, false, false]), (170, .invokevirtual 143, 3, none), (173, .return_, 1, none)]
def mi_174 : PI := (9, 7, 0, 1, 9, 5, 117, cd_174)
/-- IllLightModel.logMan(I)V -/
def cd_175 : List (Nat × Instr × Nat × Option (List Bool)) := [(0, .aload_n 0, 1, none), (1, .getfield 92, 3, none), (4, .ifCond .ne 20, 3, none), (7, .aload_n 0, 1, none), (8, .getfield 17, 3, none), (11, .iconst 0, 1, none), (12, .iaload, 1, none), (13, .bipush 6, 2, none), (15, .if_icmp .lt 9, 3, none), (18, .aload_n 0, 1, none), (19, .iconst 3, 1, none), (20, .iload_n 1, 1, none), (21, .invokevirtual 103, 3, none), (24, .aload_n 0, 1, some [true, false, false]), (25, .iconst 0, 1, none), (26, .bipush 10, 2, none), (28, .invokevirtual 110, 3, none), (31, .istore_n 2, 1, none), (32, .aload_n 0, 1, none), (33, .getfield 17, 3, none), (36, .iconst 0, 1, none), (37, .iaload, 1, none), (38, .bipush 6, 2, none), (40, .if_icmp .lt 4, 3, none), (43, .return_, 1, none), (44, .aload_n 0, 1, some [true, false, true]), (45, .getfield 17, 3, none), (48, .iconst 4, 1, none), (49, .aload_n 0, 1, none), (50, .getfield 17, 3, none), (53, .iconst 0, 1, none), (54, .iaload, 1, none), (55, .iadd, 1, none), (56, .iload_n 2, 1, none), (57, .iastore, 1, none), (58, .aload_n 0, 1, none), (59, .getfield 17, 3, none), (62, .iconst 0, 1, none), (63, .dup2, 1, none), (64, .iaload, 1, none), (65, .iconst 1, 1, none), (66, .iadd, 1, none), (67, .iastore, 1, none), (68, .return_, 1, none)]
def mi_175 : PI := (9, 3, 0, 2, 9, 5, 117, cd_175)
/-- IllLightModel.logFact(IZ)V -/
def cd_176 : List (Nat × Instr × Nat × Option (List Bool)) := [(0, .aload_n 0, 1, none), (1, .getfield 92, 3, none), (4, .ifCond .ne 20, 3, none), (7, .aload_n 0, 1, none), (8, .getfield 17, 3, none), (11, .iconst 3, 1, none), (12, .iaload, 1, none), (13, .bipush 10, 2, none), (15, .if_icmp .lt 9, 3, none), (18, .aload_n 0, 1, none), (19, .iconst 3, 1, none), (20, .iload_n 1, 1, none), (21, .invokevirtual 103, 3, none), (24, .aload_n 0, 1, some [true, false, true, false]), (25, .iconst 0, 1, none), (26, .bipush 23, 2, none), (28, .invokevirtual 110, 3, none), (31, .istore_n 3, 1, none), (32, .aload_n 0, 1, none), (33, .getfield 17, 3, none), (36, .iconst 3, 1, none), (37, .iaload, 1, none), (38, .bipush 10, 2, none), (40, .if_icmp .lt 4, 3, none), (43, .return_, 1, none), (44, .aload_n 0, 1, some [true, false, true, true]), (45, .getfield 17, 3, none), (48, .bipush 10, 2, none), (50, .iconst 2, 1, none), (51, .aload_n 0, 1, none), (52, .getfield 17, 3, none), (55, .iconst 3, 1, none), (56, .iaload, 1, none), (57, .imul, 1, none), (58, .iadd, 1, none), (59, .iload_n 2, 1, none), (60, .ifCond .eq 7, 3, none), (63, .iconst 1, 1, none), (64, .goto 4, 3, none), (67, .iconst 0, 1, some [true, false, false, true]), (68, .iastore, 1, some [true, false, false, true]), (69, .aload_n 0, 1, none), (70, .getfield 17, 3, none), (73, .bipush 11, 2, none), (75, .iconst 2, 1, none), (76, .aload_n 0, 1, none), (77, .getfield 17, 3, none), (80, .iconst 3, 1, none), (81, .iaload, 1, none), (82, .imul, 1, none), (83, .iadd, 1, none), (84, .iload_n 3, 1, none), (85, .iastore, 1, none), (86, .aload_n 0, 1, none), (87, .getfield 17, 3, none), (90, .iconst 3, 1, none), (91, .dup2, 1, none), (92, .iaload, 1, none), (93, .iconst 1, 1, none), (94, .iadd, 1, none), (95, .iastore, 1, none), (96, .return_, 1, none)]
def mi_176 : PI := (9, 4, 0, 3, 9, 5, 117, cd_176)
/-- IllLightModel.logLine()V -/
def cd_177 : List (Nat × Instr × Nat × Option (List Bool)) := [(0, .aload_n 0, 1, none), (1, .getfield 65, 3, none), (4, .istore_n 1, 1, none), (5, .aload_n 0, 1, none), (6, .bipush 12, 2, none), (8, .bipush 16, 2, none), (10, .invokevirtual 130, 3, none), (13, .istore_n 2, 1, none), (14, .iload_n 2, 1, none), (15, .lookupswitch 84 #[(0, 41), (12, 44), (13, 60), (14, 68)], 41, none), (56, .goto 59, 3, some [true, false, false]), (59, .aload_n 0, 1, some [true, false, false]), (60, .getfield 17, 3, none), (63, .iconst 1, 1, none), (64, .aload_n 0, 1, none), (65, .iconst 1, 1, none), (66, .bipush 6, 2, none), (68, .invokevirtual 110, 3, none), (71, .iastore, 1, none), (72, .goto 43, 3, none), (75, .aload_n 0, 1, some [true, true, false]), (76, .iload_n 1, 1, none), (77, .invokevirtual 146, 3, none), (80, .goto 35, 3, none), (83, .aload_n 0, 1, some [true, false, false]), (84, .getfield 17, 3, none), (87, .iconst 2, 1, none), (88, .aload_n 0, 1, none), (89, .iconst 0, 1, none), (90, .bipush 9, 2, none), (92, .invokevirtual 110, 3, none), (95, .iastore, 1, none), (96, .goto 19, 3, none), (99, .aload_n 0, 1, some [true, true, true]), (100, .iload_n 1, 1, none), (101, .iload_n 2, 1, none), (102, .bipush 15, 2, none), (104, .if_icmp .ne 7, 3, none), (107, .iconst 1, 1, none), (108, .goto 4, 3, none), (111, .iconst 0, 1, some [true, false, false]), (112, .invokevirtual 149, 3, some [true, false, false]), (115, .aload_n 0, 1, some [true, false, false]), (116, .invokevirtual 143, 3, none), (119, .return_, 1, none)]
def mi_177 : PI := (9, 3, 0, 1, 9, 6, 140, cd_177)
/-- IllLightModel.placeOf(II)I -/
def cd_178 : List (Nat × Instr × Nat × Option (List Bool)) := [(0, .iload_n 0, 1, none), (1, .ifCond .ne 15, 3, none), (4, .sipush 610, 3, none), (7, .sipush 142, 3, none), (10, .iload_n 1, 1, none), (11, .imul, 1, none), (12, .iadd, 1, none), (13, .goto 28, 3, none), (16, .iload_n 0, 1, some [true, true]), (17, .iconst 1, 1, none), (18, .if_icmp .ne 15, 3, none), (21, .sipush 894, 3, none), (24, .sipush 161, 3, none), (27, .iload_n 1, 1, none), (28, .imul, 1, none), (29, .iadd, 1, none), (30, .goto 11, 3, none), (33, .sipush 1216, 3, some [false, true]), (36, .bipush 30, 2, none), (38, .iload_n 1, 1, none), (39, .imul, 1, none), (40, .iadd, 1, none), (41, .ireturn, 1, some [false, false])]
def mi_178 : PI := (9, 2, 1, 2, 0, 0, 0, cd_178)
/-- IllLightModel.sizeOf(I)I -/
def cd_179 : List (Nat × Instr × Nat × Option (List Bool)) := [(0, .iload_n 0, 1, none), (1, .ifCond .ne 9, 3, none), (4, .sipush 142, 3, none), (7, .goto 16, 3, none), (10, .iload_n 0, 1, some [true]), (11, .iconst 1, 1, none), (12, .if_icmp .ne 9, 3, none), (15, .sipush 161, 3, none), (18, .goto 5, 3, none), (21, .bipush 30, 2, some [false]), (23, .ireturn, 1, some [false])]
def mi_179 : PI := (9, 1, 1, 1, 0, 0, 0, cd_179)
/-- IllLightModel.isOf(II)Z -/
def cd_180 : List (Nat × Instr × Nat × Option (List Bool)) := [(0, .iload_n 2, 1, none), (1, .iconst 0, 1, none), (2, .aload_n 0, 1, none), (3, .getfield 7, 3, none), (6, .iload_n 1, 1, none), (7, .iaload, 1, none), (8, .iconst 1, 1, none), (9, .isub, 1, none), (10, .invokestatic 99, 3, none), (13, .ireturn, 1, none)]
def mi_180 : PI := (9, 3, 2, 3, 9, 1, 22, cd_180)
/-- IllLightModel.text(II)I -/
def cd_181 : List (Nat × Instr × Nat × Option (List Bool)) := [(0, .aload_n 0, 1, none), (1, .aload_n 0, 1, none), (2, .getfield 7, 3, none), (5, .iconst 4, 1, none), (6, .iaload, 1, none), (7, .putfield 44, 3, none), (10, .aload_n 0, 1, none), (11, .getfield 7, 3, none), (14, .iconst 4, 1, none), (15, .iconst 0, 1, none), (16, .iastore, 1, none), (17, .aload_n 0, 1, none), (18, .getfield 7, 3, none), (21, .iconst 5, 1, none), (22, .iconst 0, 1, none), (23, .iastore, 1, none), (24, .aload_n 0, 1, none), (25, .getfield 7, 3, none), (28, .bipush 6, 2, none), (30, .iconst (-1), 1, none), (31, .iastore, 1, none), (32, .iload_n 1, 1, none), (33, .iconst 0, 1, none), (34, .iconst 2, 1, none), (35, .invokestatic 99, 3, none), (38, .ifCond .eq 30, 3, none), (41, .iload_n 2, 1, none), (42, .iconst (-1), 1, none), (43, .if_icmp .ne 16, 3, none), (46, .aload_n 0, 1, none), (47, .getfield 7, 3, none), (50, .iload_n 1, 1, none), (51, .iaload, 1, none), (52, .iconst 2, 1, none), (53, .if_icmp .lt 18, 3, none), (56, .goto 12, 3, none), (59, .aload_n 0, 1, some [true, true, true, false, false]), (60, .iload_n 1, 1, none), (61, .iload_n 2, 1, none), (62, .invokevirtual 153, 3, none), (65, .ifCond .ne 6, 3, none), (68, .bipush (-2), 2, some [false, false, false, false, false]), (70, .ireturn, 1, none), (71, .aload_n 0, 1, some [true, true, true, false, false]), (72, .iconst 0, 1, none), (73, .putfield 58, 3, none), (76, .aload_n 0, 1, none), (77, .iconst 0, 1, none), (78, .putfield 92, 3, none), (81, .aload_n 0, 1, none), (82, .iconst (-1), 1, none), (83, .putfield 114, 3, none), (86, .aload_n 0, 1, none), (87, .iconst (-1), 1, none), (88, .putfield 117, 3, none), (91, .aload_n 0, 1, none), (92, .iconst (-1), 1, none), (93, .putfield 124, 3, none), (96, .iconst 0, 1, none), (97, .istore_n 3, 1, none), (98, .iload_n 3, 1, some [true, true, true, true, false]), (99, .sipush 161, 3, none), (102, .if_icmp .ge 16, 3, none), (105, .aload_n 0, 1, none), (106, .getfield 17, 3, none), (109, .iload_n 3, 1, none), (110, .iconst 0, 1, none), (111, .iastore, 1, none), (112, .iinc 3 1, 3, none), (115, .goto (-17), 3, none), (118, .iload_n 1, 1, some [true, true, true, false, false]), (119, .ifCond .ne 26, 3, none), (122, .aload_n 0, 1, none), (123, .getfield 17, 3, none), (126, .iconst 0, 1, none), (127, .bipush 6, 2, none), (129, .iastore, 1, none), (130, .aload_n 0, 1, none), (131, .getfield 17, 3, none), (134, .iconst 1, 1, none), (135, .bipush 6, 2, none), (137, .iastore, 1, none), (138, .aload_n 0, 1, none), (139, .getfield 17, 3, none), (142, .iconst 3, 1, none), (143, .iconst 1, 1, none), (144, .iastore, 1, none), (145, .iload_n 1, 1, some [true, true, true, false, false]), (146, .iconst 2, 1, none), (147, .if_icmp .ne 10, 3, none), (150, .aload_n 0, 1, none), (151, .getfield 17, 3, none), (154, .iconst 1, 1, none), (155, .iconst 1, 1, none), (156, .iastore, 1, none), (157, .aload_n 0, 1, some [true, true, true, false, false]), (158, .invokevirtual 107, 3, none), (161, .aload_n 0, 1, some [true, true, true, false, false]), (162, .getfield 92, 3, none), (165, .ifCond .ne 60, 3, none), (168, .aload_n 0, 1, none), (169, .getfield 68, 3, none), (172, .ifCond .eq 53, 3, none), (175, .iload_n 1, 1, none), (176, .lookupswitch 42 #[(0, 28), (1, 35)], 28, none), (204, .aload_n 0, 1, some [true, true, true, false, false]), (205, .invokevirtual 157, 3, none), (208, .goto (-47), 3, none), (211, .aload_n 0, 1, some [true, true, true, false, false]), (212, .invokevirtual 160, 3, none), (215, .goto (-54), 3, none), (218, .aload_n 0, 1, some [true, true, true, false, false]), (219, .invokevirtual 163, 3, none), (222, .goto (-61), 3, none), (225, .aload_n 0, 1, some [true, true, true, false, false]), (226, .getfield 7, 3, none), (229, .iconst 5, 1, none), (230, .iaload, 1, none), (231, .ifCond .ne 42, 3, none), (234, .iload_n 1, 1, none), (235, .ifCond .ne 38, 3, none), (238, .aload_n 0, 1, none), (239, .getfield 114, 3, none), (242, .aload_n 0, 1, none), (243, .getfield 17, 3, none), (246, .iconst 0, 1, none), (247, .iaload, 1, none), (248, .if_icmp .ge 16, 3, none), (251, .aload_n 0, 1, none), (252, .getfield 117, 3, none), (255, .aload_n 0, 1, none), (256, .getfield 17, 3, none), (259, .iconst 1, 1, none), (260, .iaload, 1, none), (261, .if_icmp .lt 12, 3, none), (264, .aload_n 0, 1, some [true, true, true, false, false]), (265, .iconst 5, 1, none), (266, .aload_n 0, 1, none), (267, .getfield 65, 3, none), (270, .invokevirtual 103, 3, none), (273, .aload_n 0, 1, some [true, true, true, false, false]), (274, .getfield 7, 3, none), (277, .iconst 5, 1, none), (278, .iaload, 1, none), (279, .ifCond .ne 30, 3, none), (282, .iload_n 1, 1, none), (283, .ifCond .ne 26, 3, none), (286, .aload_n 0, 1, none), (287, .getfield 124, 3, none), (290, .aload_n 0, 1, none), (291, .getfield 17, 3, none), (294, .iconst 5, 1, none), (295, .iaload, 1, none), (296, .if_icmp .lt 13, 3, none), (299, .aload_n 0, 1, none), (300, .bipush 6, 2, none), (302, .aload_n 0, 1, none), (303, .getfield 65, 3, none), (306, .invokevirtual 103, 3, none), (309, .aload_n 0, 1, some [true, true, true, false, false]), (310, .getfield 7, 3, none), (313, .iconst 5, 1, none), (314, .iaload, 1, none), (315, .ifCond .eq 5, 3, none), (318, .iconst (-1), 1, none), (319, .ireturn, 1, none), (320, .iload_n 2, 1, some [true, true, true, false, false]), (321, .iconst (-1), 1, none), (322, .if_icmp .ne 12, 3, none), (325, .aload_n 0, 1, none), (326, .getfield 7, 3, none), (329, .iload_n 1, 1, none), (330, .iaload, 1, none), (331, .goto 4, 3, none), (334, .iload_n 2, 1, some [true, true, true, false, false]), (335, .istore_n 3, 1, some [true, true, true, false, false]), (336, .iload_n 2, 1, none), (337, .iconst (-1), 1, none), (338, .if_icmp .ne 13, 3, none), (341, .aload_n 0, 1, none), (342, .getfield 7, 3, none), (345, .iload_n 1, 1, none), (346, .dup2, 1, none), (347, .iaload, 1, none), (348, .iconst 1, 1, none), (349, .iadd, 1, none), (350, .iastore, 1, none), (351, .iconst 0, 1, some [true, true, false, true, false]), (352, .istore 4, 2, none), (354, .iload 4, 2, some [true, true, false, true, true]), (356, .iload_n 1, 1, none), (357, .invokestatic 166, 3, none), (360, .if_icmp .ge 29, 3, none), (363, .aload_n 0, 1, none), (364, .getfield 7, 3, none), (367, .iload_n 1, 1, none), (368, .iload_n 3, 1, none), (369, .invokestatic 169, 3, none), (372, .iload 4, 2, none), (374, .iadd, 1, none), (375, .aload_n 0, 1, none), (376, .getfield 17, 3, none), (379, .iload 4, 2, none), (381, .iaload, 1, none), (382, .iastore, 1, none), (383, .iinc 4 1, 3, none), (386, .goto (-32), 3, none), (389, .iload_n 1, 1, some [true, true, false, true, false]), (390, .ifCond .ne 12, 3, none), (393, .aload_n 0, 1, none), (394, .iconst 0, 1, none), (395, .iload_n 3, 1, none), (396, .invokestatic 169, 3, none), (399, .invokevirtual 172, 3, none), (402, .iload_n 3, 1, some [false, false, false, true, false]), (403, .ireturn, 1, none)]
def mi_181 : PI := (9, 5, 1, 3, 9, 8, 187, cd_181)
/-- IllLightModel.settled(II)I -/
def cd_182 : List (Nat × Instr × Nat × Option (List Bool)) := [(0, .iload_n 2, 1, none), (1, .iload_n 1, 1, none), (2, .bipush 8, 2, none), (4, .idiv, 1, none), (5, .imul, 1, none), (6, .iload_n 1, 1, none), (7, .bipush 8, 2, none), (9, .irem, 1, none), (10, .iadd, 1, none), (11, .ireturn, 1, none)]
def mi_182 : PI := (9, 3, 1, 3, 9, 0, 0, cd_182)
/-- IllLightModel.settles(I)V -/
def cd_183 : List (Nat × Instr × Nat × Option (List Bool)) := [(0, .aload_n 0, 1, none), (1, .getfield 7, 3, none), (4, .iload_n 1, 1, none), (5, .iaload, 1, none), (6, .istore_n 2, 1, none), (7, .aload_n 0, 1, none), (8, .getfield 7, 3, none), (11, .iload_n 1, 1, none), (12, .iconst 2, 1, none), (13, .iadd, 1, none), (14, .aload_n 0, 1, none), (15, .aload_n 0, 1, none), (16, .getfield 7, 3, none), (19, .iload_n 1, 1, none), (20, .iconst 2, 1, none), (21, .iadd, 1, none), (22, .iaload, 1, none), (23, .iload_n 2, 1, none), (24, .invokevirtual 175, 3, none), (27, .iastore, 1, none), (28, .iconst 0, 1, none), (29, .istore_n 3, 1, none), (30, .iload_n 3, 1, some [true, true, true, true]), (31, .iconst 4, 1, none), (32, .if_icmp .ge 40, 3, none), (35, .aload_n 0, 1, none), (36, .getfield 7, 3, none), (39, .iload_n 1, 1, none), (40, .bipush 6, 2, none), (42, .iadd, 1, none), (43, .iconst 2, 1, none), (44, .iload_n 3, 1, none), (45, .imul, 1, none), (46, .iadd, 1, none), (47, .aload_n 0, 1, none), (48, .aload_n 0, 1, none), (49, .getfield 7, 3, none), (52, .iload_n 1, 1, none), (53, .bipush 6, 2, none), (55, .iadd, 1, none), (56, .iconst 2, 1, none), (57, .iload_n 3, 1, none), (58, .imul, 1, none), (59, .iadd, 1, none), (60, .iaload, 1, none), (61, .iload_n 2, 1, none), (62, .invokevirtual 175, 3, none), (65, .iastore, 1, none), (66, .iinc 3 1, 3, none), (69, .goto (-39), 3, none), (72, .iconst 0, 1, some [true, true, true, false]), (73, .istore_n 3, 1, none), (74, .iload_n 3, 1, some [true, true, true, true]), (75, .iconst 4, 1, none), (76, .if_icmp .ge 40, 3, none), (79, .aload_n 0, 1, none), (80, .getfield 7, 3, none), (83, .iload_n 1, 1, none), (84, .bipush 14, 2, none), (86, .iadd, 1, none), (87, .iconst 4, 1, none), (88, .iload_n 3, 1, none), (89, .imul, 1, none), (90, .iadd, 1, none), (91, .aload_n 0, 1, none), (92, .aload_n 0, 1, none), (93, .getfield 7, 3, none), (96, .iload_n 1, 1, none), (97, .bipush 14, 2, none), (99, .iadd, 1, none), (100, .iconst 4, 1, none), (101, .iload_n 3, 1, none), (102, .imul, 1, none), (103, .iadd, 1, none), (104, .iaload, 1, none), (105, .iload_n 2, 1, none), (106, .invokevirtual 175, 3, none), (109, .iastore, 1, none), (110, .iinc 3 1, 3, none), (113, .goto (-39), 3, none), (116, .iconst 0, 1, some [true, true, true, false]), (117, .istore_n 3, 1, none), (118, .iload_n 3, 1, some [true, true, true, true]), (119, .bipush 64, 2, none), (121, .if_icmp .ge 21, 3, none), (124, .aload_n 0, 1, none), (125, .getfield 7, 3, none), (128, .iload_n 1, 1, none), (129, .bipush 78, 2, none), (131, .iadd, 1, none), (132, .iload_n 3, 1, none), (133, .iadd, 1, none), (134, .iconst 0, 1, none), (135, .iastore, 1, none), (136, .iinc 3 1, 3, none), (139, .goto (-21), 3, none), (142, .iconst 0, 1, some [true, true, true, false]), (143, .istore_n 3, 1, none), (144, .iload_n 3, 1, some [true, true, true, true]), (145, .bipush 64, 2, none), (147, .if_icmp .ge 39, 3, none), (150, .aload_n 0, 1, none), (151, .getfield 17, 3, none), (154, .bipush 78, 2, none), (156, .iload_n 3, 1, none), (157, .iadd, 1, none), (158, .iaload, 1, none), (159, .iconst 1, 1, none), (160, .if_icmp .ne 20, 3, none), (163, .aload_n 0, 1, none), (164, .getfield 7, 3, none), (167, .iload_n 1, 1, none), (168, .bipush 78, 2, none), (170, .iadd, 1, none), (171, .aload_n 0, 1, none), (172, .iload_n 3, 1, none), (173, .iload_n 2, 1, none), (174, .invokevirtual 175, 3, none), (177, .iadd, 1, none), (178, .iconst 1, 1, none), (179, .iastore, 1, none), (180, .iinc 3 1, 3, some [true, true, true, true]), (183, .goto (-39), 3, none), (186, .return_, 1, some [false, false, false, false])]
def mi_183 : PI := (9, 4, 0, 2, 9, 1, 22, cd_183)
/-- IllLightModel.fault(I)I -/
def cd_184 : List (Nat × Instr × Nat × Option (List Bool)) := [(0, .iload_n 1, 1, none), (1, .ifCond .ne 12, 3, none), (4, .aload_n 0, 1, none), (5, .getfield 7, 3, none), (8, .iconst 5, 1, none), (9, .iaload, 1, none), (10, .goto 19, 3, none), (13, .iload_n 1, 1, some [true, true]), (14, .iconst 1, 1, none), (15, .if_icmp .ne 13, 3, none), (18, .aload_n 0, 1, none), (19, .getfield 7, 3, none), (22, .bipush 6, 2, none), (24, .iaload, 1, none), (25, .goto 4, 3, none), (28, .iconst (-1), 1, some [false, false]), (29, .ireturn, 1, some [false, false])]
def mi_184 : PI := (9, 2, 1, 2, 9, 0, 0, cd_184)
/-- IllLightModel.isCoast(I)Z -/
def cd_185 : List (Nat × Instr × Nat × Option (List Bool)) := [(0, .aload_n 0, 1, none), (1, .iconst 0, 1, none), (2, .iload_n 1, 1, none), (3, .invokevirtual 153, 3, none), (6, .ifCond .ne 5, 3, none), (9, .iconst 0, 1, none), (10, .ireturn, 1, none), (11, .aload_n 0, 1, some [true, true]), (12, .iconst 0, 1, none), (13, .iload_n 1, 1, none), (14, .invokestatic 169, 3, none), (17, .putfield 178, 3, none), (20, .aload_n 0, 1, none), (21, .aload_n 0, 1, none), (22, .getfield 7, 3, none), (25, .aload_n 0, 1, none), (26, .getfield 178, 3, none), (29, .iaload, 1, none), (30, .putfield 181, 3, none), (33, .aload_n 0, 1, none), (34, .aload_n 0, 1, none), (35, .getfield 7, 3, none), (38, .aload_n 0, 1, none), (39, .getfield 178, 3, none), (42, .iconst 1, 1, none), (43, .iadd, 1, none), (44, .iaload, 1, none), (45, .putfield 184, 3, none), (48, .aload_n 0, 1, none), (49, .aload_n 0, 1, none), (50, .getfield 7, 3, none), (53, .aload_n 0, 1, none), (54, .getfield 178, 3, none), (57, .iconst 5, 1, none), (58, .iadd, 1, none), (59, .iaload, 1, none), (60, .putfield 187, 3, none), (63, .iconst 1, 1, none), (64, .ireturn, 1, none)]
def mi_185 : PI := (9, 2, 2, 2, 9, 2, 44, cd_185)
/-- IllLightModel.isCell(I)Z -/
def cd_186 : List (Nat × Instr × Nat × Option (List Bool)) := [(0, .iload_n 1, 1, none), (1, .iconst 0, 1, none), (2, .aload_n 0, 1, none), (3, .getfield 181, 3, none), (6, .aload_n 0, 1, none), (7, .getfield 184, 3, none), (10, .imul, 1, none), (11, .iconst 1, 1, none), (12, .isub, 1, none), (13, .invokestatic 99, 3, none), (16, .ireturn, 1, none)]
def mi_186 : PI := (9, 2, 2, 2, 9, 1, 22, cd_186)
/-- IllLightModel.isShip(I)Z -/
def cd_187 : List (Nat × Instr × Nat × Option (List Bool)) := [(0, .iload_n 1, 1, none), (1, .iconst 0, 1, none), (2, .aload_n 0, 1, none), (3, .getfield 187, 3, none), (6, .iconst 1, 1, none), (7, .isub, 1, none), (8, .invokestatic 99, 3, none), (11, .ireturn, 1, none)]
def mi_187 : PI := (9, 2, 2, 2, 9, 1, 22, cd_187)
/-- IllLightModel.of(II)I -/
def cd_188 : List (Nat × Instr × Nat × Option (List Bool)) := [(0, .aload_n 0, 1, none), (1, .getfield 7, 3, none), (4, .aload_n 0, 1, none), (5, .getfield 178, 3, none), (8, .bipush 14, 2, none), (10, .iadd, 1, none), (11, .iconst 4, 1, none), (12, .iload_n 1, 1, none), (13, .imul, 1, none), (14, .iadd, 1, none), (15, .iload_n 2, 1, none), (16, .iadd, 1, none), (17, .iaload, 1, none), (18, .ireturn, 1, none)]
def mi_188 : PI := (9, 3, 1, 3, 9, 0, 0, cd_188)
/-- IllLightModel.coast(II)I -/
def cd_189 : List (Nat × Instr × Nat × Option (List Bool)) := [(0, .aload_n 0, 1, none), (1, .iload_n 1, 1, none), (2, .invokevirtual 190, 3, none), (5, .ifCond .ne 5, 3, none), (8, .iconst (-1), 1, none), (9, .ireturn, 1, none), (10, .iload_n 2, 1, some [true, false, true, false]), (11, .iconst 0, 1, none), (12, .iconst 5, 1, none), (13, .invokestatic 99, 3, none), (16, .ifCond .eq 15, 3, none), (19, .aload_n 0, 1, none), (20, .getfield 7, 3, none), (23, .aload_n 0, 1, none), (24, .getfield 178, 3, none), (27, .iload_n 2, 1, none), (28, .iadd, 1, none), (29, .iaload, 1, none), (30, .ireturn, 1, none), (31, .iload_n 2, 1, some [true, false, true, false]), (32, .bipush 100, 2, none), (34, .bipush 99, 2, none), (36, .aload_n 0, 1, none), (37, .getfield 181, 3, none), (40, .aload_n 0, 1, none), (41, .getfield 184, 3, none), (44, .imul, 1, none), (45, .iadd, 1, none), (46, .invokestatic 99, 3, none), (49, .ifCond .eq 21, 3, none), (52, .aload_n 0, 1, none), (53, .getfield 7, 3, none), (56, .aload_n 0, 1, none), (57, .getfield 178, 3, none), (60, .bipush 78, 2, none), (62, .iadd, 1, none), (63, .iload_n 2, 1, none), (64, .iadd, 1, none), (65, .bipush 100, 2, none), (67, .isub, 1, none), (68, .iaload, 1, none), (69, .ireturn, 1, none), (70, .iload_n 2, 1, some [true, false, true, false]), (71, .bipush 10, 2, none), (73, .irem, 1, none), (74, .istore_n 3, 1, none), (75, .iload_n 2, 1, none), (76, .bipush 10, 2, none), (78, .bipush 29, 2, none), (80, .invokestatic 99, 3, none), (83, .ifCond .eq 46, 3, none), (86, .iload_n 3, 1, none), (87, .aload_n 0, 1, none), (88, .getfield 7, 3, none), (91, .aload_n 0, 1, none), (92, .getfield 178, 3, none), (95, .iconst 4, 1, none), (96, .iadd, 1, none), (97, .iaload, 1, none), (98, .if_icmp .ge 29, 3, none), (101, .aload_n 0, 1, none), (102, .getfield 7, 3, none), (105, .aload_n 0, 1, none), (106, .getfield 178, 3, none), (109, .bipush 6, 2, none), (111, .iadd, 1, none), (112, .iconst 2, 1, none), (113, .iload_n 3, 1, none), (114, .imul, 1, none), (115, .iadd, 1, none), (116, .iload_n 2, 1, none), (117, .bipush 10, 2, none), (119, .idiv, 1, none), (120, .iadd, 1, none), (121, .iconst 1, 1, none), (122, .isub, 1, none), (123, .iaload, 1, none), (124, .goto 4, 3, none), (127, .iconst (-1), 1, some [false, false, false, false]), (128, .ireturn, 1, some [false, false, false, false]), (129, .iload_n 2, 1, some [true, false, true, true]), (130, .bipush 30, 2, none), (132, .bipush 69, 2, none), (134, .invokestatic 99, 3, none), (137, .ifCond .eq 25, 3, none), (140, .aload_n 0, 1, none), (141, .iload_n 3, 1, none), (142, .invokevirtual 193, 3, none), (145, .ifCond .eq 17, 3, none), (148, .aload_n 0, 1, none), (149, .iload_n 3, 1, none), (150, .iload_n 2, 1, none), (151, .bipush 10, 2, none), (153, .idiv, 1, none), (154, .iconst 3, 1, none), (155, .isub, 1, none), (156, .invokevirtual 196, 3, none), (159, .goto 4, 3, none), (162, .iconst (-1), 1, some [false, false, false, false]), (163, .ireturn, 1, some [false, false, false, false])]
def mi_189 : PI := (9, 4, 1, 3, 9, 3, 65, cd_189)
/-- IllLightModel.man(IIII)I -/
def cd_190 : List (Nat × Instr × Nat × Option (List Bool)) := [(0, .aload_n 0, 1, none), (1, .iload_n 1, 1, none), (2, .invokevirtual 190, 3, none), (5, .ifCond .eq 37, 3, none), (8, .aload_n 0, 1, none), (9, .iload_n 2, 1, none), (10, .invokevirtual 193, 3, none), (13, .ifCond .eq 29, 3, none), (16, .iload_n 3, 1, none), (17, .iconst 0, 1, none), (18, .aload_n 0, 1, none), (19, .iload_n 2, 1, none), (20, .iconst 3, 1, none), (21, .invokevirtual 196, 3, none), (24, .iconst 1, 1, none), (25, .isub, 1, none), (26, .invokestatic 99, 3, none), (29, .ifCond .eq 13, 3, none), (32, .iload 4, 2, none), (34, .iconst 0, 1, none), (35, .iconst 2, 1, none), (36, .invokestatic 99, 3, none), (39, .ifCond .ne 5, 3, none), (42, .iconst (-1), 1, some [false, false, false, false, false]), (43, .ireturn, 1, none), (44, .aload_n 0, 1, some [true, false, true, true, true]), (45, .getfield 7, 3, none), (48, .aload_n 0, 1, none), (49, .getfield 178, 3, none), (52, .bipush 30, 2, none), (54, .iadd, 1, none), (55, .bipush 12, 2, none), (57, .iload_n 2, 1, none), (58, .imul, 1, none), (59, .iadd, 1, none), (60, .iconst 3, 1, none), (61, .iload_n 3, 1, none), (62, .imul, 1, none), (63, .iadd, 1, none), (64, .iload 4, 2, none), (66, .iadd, 1, none), (67, .iaload, 1, none), (68, .ireturn, 1, none)]
def mi_190 : PI := (9, 5, 1, 5, 9, 3, 65, cd_190)
/-- IllLightModel.asTold()V -/
def cd_191 : List (Nat × Instr × Nat × Option (List Bool)) := [(0, .iconst 0, 1, none), (1, .istore_n 1, 1, none), (2, .iload_n 1, 1, some [true, true]), (3, .bipush 48, 2, none), (5, .if_icmp .ge 29, 3, none), (8, .aload_n 0, 1, none), (9, .getfield 20, 3, none), (12, .iload_n 1, 1, none), (13, .aload_n 0, 1, none), (14, .getfield 7, 3, none), (17, .aload_n 0, 1, none), (18, .getfield 178, 3, none), (21, .bipush 30, 2, none), (23, .iadd, 1, none), (24, .iload_n 1, 1, none), (25, .iadd, 1, none), (26, .iaload, 1, none), (27, .iastore, 1, none), (28, .iinc 1 1, 3, none), (31, .goto (-29), 3, none), (34, .iconst 0, 1, some [true, false]), (35, .istore_n 1, 1, none), (36, .iload_n 1, 1, some [true, true]), (37, .iconst 4, 1, none), (38, .if_icmp .ge 21, 3, none), (41, .aload_n 0, 1, none), (42, .getfield 23, 3, none), (45, .iload_n 1, 1, none), (46, .aload_n 0, 1, none), (47, .iload_n 1, 1, none), (48, .iconst 1, 1, none), (49, .invokevirtual 196, 3, none), (52, .iastore, 1, none), (53, .iinc 1 1, 3, none), (56, .goto (-20), 3, none), (59, .aload_n 0, 1, some [true, false]), (60, .bipush 15, 2, none), (62, .putfield 199, 3, none), (65, .return_, 1, none)]
def mi_191 : PI := (9, 2, 0, 1, 9, 1, 22, cd_191)
/-- IllLightModel.meansAlone(II)I -/
def cd_192 : List (Nat × Instr × Nat × Option (List Bool)) := [(0, .aload_n 0, 1, none), (1, .getfield 20, 3, none), (4, .iload_n 1, 1, none), (5, .iconst 1, 1, none), (6, .iadd, 1, none), (7, .iaload, 1, none), (8, .istore_n 3, 1, none), (9, .aload_n 0, 1, none), (10, .getfield 20, 3, none), (13, .iload_n 1, 1, none), (14, .iaload, 1, none), (15, .tableswitch 76 0 5 #[37, 76, 39, 57, 76, 69], 37, none), (52, .iload_n 3, 1, some [false, false, false, true]), (53, .ireturn, 1, none), (54, .iload_n 2, 1, some [true, true, true, true]), (55, .aload_n 0, 1, none), (56, .getfield 20, 3, none), (59, .iload_n 1, 1, none), (60, .iconst 2, 1, none), (61, .iadd, 1, none), (62, .iaload, 1, none), (63, .if_icmp .ge 7, 3, none), (66, .iload_n 3, 1, none), (67, .goto 4, 3, none), (70, .iconst 0, 1, some [false, false, false, false]), (71, .ireturn, 1, some [false, false, false, false]), (72, .iload_n 2, 1, some [false, false, true, true]), (73, .iconst 2, 1, none), (74, .irem, 1, none), (75, .ifCond .ne 7, 3, none), (78, .iload_n 3, 1, none), (79, .goto 4, 3, none), (82, .iconst 0, 1, some [false, false, false, false]), (83, .ireturn, 1, some [false, false, false, false]), (84, .aload_n 0, 1, some [true, false, false, true]), (85, .getfield 23, 3, none), (88, .iload_n 3, 1, none), (89, .iaload, 1, none), (90, .ireturn, 1, none), (91, .iconst 0, 1, some [false, false, false, false]), (92, .ireturn, 1, none)]
def mi_192 : PI := (9, 4, 1, 3, 9, 0, 0, cd_192)
/-- IllLightModel.means(III)I -/
def cd_193 : List (Nat × Instr × Nat × Option (List Bool)) := [(0, .bipush 12, 2, none), (2, .iload_n 1, 1, none), (3, .imul, 1, none), (4, .iconst 3, 1, none), (5, .iload_n 2, 1, none), (6, .imul, 1, none), (7, .iadd, 1, none), (8, .istore 4, 2, none), (10, .aload_n 0, 1, none), (11, .getfield 20, 3, none), (14, .iload 4, 2, none), (16, .iaload, 1, none), (17, .iconst 1, 1, none), (18, .if_icmp .eq 11, 3, none), (21, .aload_n 0, 1, none), (22, .iload 4, 2, none), (24, .iload_n 3, 1, none), (25, .invokevirtual 202, 3, none), (28, .ireturn, 1, none), (29, .iload_n 2, 1, some [true, true, true, true, false]), (30, .ifCond .eq 12, 3, none), (33, .aload_n 0, 1, none), (34, .getfield 199, 3, none), (37, .iconst 1, 1, none), (38, .iand, 1, none), (39, .ifCond .ne 7, 3, none), (42, .iconst 0, 1, some [false, false, false, false, false]), (43, .goto 12, 3, none), (46, .aload_n 0, 1, some [true, true, false, true, false]), (47, .bipush 12, 2, none), (49, .iload_n 1, 1, none), (50, .imul, 1, none), (51, .iload_n 3, 1, none), (52, .invokevirtual 202, 3, none), (55, .ireturn, 1, some [false, false, false, false, false])]
def mi_193 : PI := (9, 5, 1, 4, 9, 1, 23, cd_193)
/-- IllLightModel.harmOf(II)I -/
def cd_194 : List (Nat × Instr × Nat × Option (List Bool)) := [(0, .aload_n 0, 1, none), (1, .getfield 23, 3, none), (4, .iload_n 1, 1, none), (5, .iaload, 1, none), (6, .iconst 2, 1, none), (7, .aload_n 0, 1, none), (8, .iload_n 1, 1, none), (9, .iconst 2, 1, none), (10, .invokevirtual 196, 3, none), (13, .imul, 1, none), (14, .isub, 1, none), (15, .istore_n 3, 1, none), (16, .iconst 0, 1, none), (17, .istore 4, 2, none), (19, .iload 4, 2, some [true, true, true, true, true]), (21, .aload_n 0, 1, none), (22, .iload_n 1, 1, none), (23, .iconst 3, 1, none), (24, .invokevirtual 196, 3, none), (27, .if_icmp .ge 37, 3, none), (30, .iload_n 3, 1, none), (31, .aload_n 0, 1, none), (32, .getfield 199, 3, none), (35, .iload 4, 2, none), (37, .ishr, 1, none), (38, .iconst 1, 1, none), (39, .iand, 1, none), (40, .iconst 1, 1, none), (41, .if_icmp .ne 14, 3, none), (44, .aload_n 0, 1, none), (45, .iload_n 1, 1, none), (46, .iload 4, 2, none), (48, .iload_n 2, 1, none), (49, .invokevirtual 205, 3, none), (52, .goto 4, 3, none), (55, .iconst 0, 1, some [true, true, true, false, true]), (56, .iadd, 1, some [true, true, true, false, true]), (57, .istore_n 3, 1, none), (58, .iinc 4 1, 3, none), (61, .goto (-42), 3, none), (64, .iload_n 3, 1, some [false, false, false, true, false]), (65, .ifCond .le 7, 3, none), (68, .iload_n 3, 1, none), (69, .goto 4, 3, none), (72, .iconst 0, 1, some [false, false, false, false, false]), (73, .ireturn, 1, some [false, false, false, false, false])]
def mi_194 : PI := (9, 5, 1, 3, 9, 2, 47, cd_194)
/-- IllLightModel.lightOf(II)I -/
def cd_195 : List (Nat × Instr × Nat × Option (List Bool)) := [(0, .aload_n 0, 1, none), (1, .iload_n 1, 1, none), (2, .iload_n 2, 1, none), (3, .invokevirtual 209, 3, none), (6, .aload_n 0, 1, none), (7, .getfield 7, 3, none), (10, .aload_n 0, 1, none), (11, .getfield 178, 3, none), (14, .iconst 3, 1, none), (15, .iadd, 1, none), (16, .iaload, 1, none), (17, .if_icmp .ge 5, 3, none), (20, .iconst 0, 1, none), (21, .ireturn, 1, none), (22, .iconst 0, 1, some [true, true, true, false, false]), (23, .istore_n 3, 1, none), (24, .iconst 0, 1, none), (25, .istore 4, 2, none), (27, .iload 4, 2, some [true, true, true, true, true]), (29, .aload_n 0, 1, none), (30, .iload_n 1, 1, none), (31, .iconst 3, 1, none), (32, .invokevirtual 196, 3, none), (35, .if_icmp .ge 61, 3, none), (38, .iload_n 3, 1, none), (39, .ifCond .ne 45, 3, none), (42, .aload_n 0, 1, none), (43, .getfield 199, 3, none), (46, .iload 4, 2, none), (48, .ishr, 1, none), (49, .iconst 1, 1, none), (50, .iand, 1, none), (51, .iconst 1, 1, none), (52, .if_icmp .ne 36, 3, none), (55, .aload_n 0, 1, none), (56, .getfield 20, 3, none), (59, .bipush 12, 2, none), (61, .iload_n 1, 1, none), (62, .imul, 1, none), (63, .iconst 3, 1, none), (64, .iload 4, 2, none), (66, .imul, 1, none), (67, .iadd, 1, none), (68, .iaload, 1, none), (69, .iconst 4, 1, none), (70, .if_icmp .eq 18, 3, none), (73, .aload_n 0, 1, none), (74, .iload_n 1, 1, none), (75, .iload 4, 2, none), (77, .iload_n 2, 1, none), (78, .invokevirtual 205, 3, none), (81, .ifCond .ne 7, 3, none), (84, .iconst 1, 1, some [true, true, true, false, true]), (85, .goto 4, 3, none), (88, .iconst 0, 1, some [true, true, true, false, true]), (89, .istore_n 3, 1, some [true, true, true, false, true]), (90, .iinc 4 1, 3, none), (93, .goto (-66), 3, none), (96, .iload_n 3, 1, some [false, false, false, true, false]), (97, .ifCond .eq 7, 3, none), (100, .iconst 1, 1, none), (101, .goto 4, 3, none), (104, .iconst 2, 1, some [false, false, false, false, false]), (105, .ireturn, 1, some [false, false, false, false, false])]
def mi_195 : PI := (9, 5, 1, 3, 9, 3, 71, cd_195)
/-- IllLightModel.isLit(II)Z -/
def cd_196 : List (Nat × Instr × Nat × Option (List Bool)) := [(0, .aload_n 0, 1, none), (1, .iload_n 1, 1, none), (2, .iload_n 2, 1, none), (3, .invokevirtual 212, 3, none), (6, .istore_n 3, 1, none), (7, .iload_n 3, 1, none), (8, .iconst 2, 1, none), (9, .if_icmp .eq 14, 3, none), (12, .iload_n 3, 1, none), (13, .iconst 1, 1, none), (14, .if_icmp .ne 13, 3, none), (17, .iload_n 2, 1, none), (18, .iconst 2, 1, none), (19, .irem, 1, none), (20, .ifCond .ne 7, 3, none), (23, .iconst 1, 1, some [false, false, false, false]), (24, .goto 4, 3, none), (27, .iconst 0, 1, some [false, false, false, false]), (28, .ireturn, 1, some [false, false, false, false])]
def mi_196 : PI := (9, 4, 2, 3, 9, 4, 95, cd_196)
/-- IllLightModel.light(IIII)I -/
def cd_197 : List (Nat × Instr × Nat × Option (List Bool)) := [(0, .aload_n 0, 1, none), (1, .iload_n 1, 1, none), (2, .invokevirtual 190, 3, none), (5, .ifCond .eq 21, 3, none), (8, .aload_n 0, 1, none), (9, .iload_n 2, 1, none), (10, .invokevirtual 193, 3, none), (13, .ifCond .eq 13, 3, none), (16, .iload_n 3, 1, none), (17, .iconst 0, 1, none), (18, .bipush 23, 2, none), (20, .invokestatic 99, 3, none), (23, .ifCond .ne 5, 3, none), (26, .iconst (-1), 1, some [false, false, false, false, false]), (27, .ireturn, 1, none), (28, .aload_n 0, 1, some [true, false, true, true, true]), (29, .invokevirtual 215, 3, none), (32, .iload 4, 2, none), (34, .bipush 10, 2, none), (36, .bipush 9, 2, none), (38, .aload_n 0, 1, none), (39, .iload_n 2, 1, none), (40, .iconst 3, 1, none), (41, .invokevirtual 196, 3, none), (44, .iadd, 1, none), (45, .invokestatic 99, 3, none), (48, .ifCond .eq 15, 3, none), (51, .aload_n 0, 1, none), (52, .iload_n 2, 1, none), (53, .iload 4, 2, none), (55, .bipush 10, 2, none), (57, .isub, 1, none), (58, .iload_n 3, 1, none), (59, .invokevirtual 205, 3, none), (62, .ireturn, 1, none), (63, .iload 4, 2, some [true, false, true, true, true]), (65, .ifCond .ne 12, 3, none), (68, .aload_n 0, 1, none), (69, .iload_n 2, 1, none), (70, .iload_n 3, 1, none), (71, .invokevirtual 209, 3, none), (74, .goto 42, 3, none), (77, .iload 4, 2, some [true, false, true, true, true]), (79, .iconst 1, 1, none), (80, .if_icmp .ne 12, 3, none), (83, .aload_n 0, 1, none), (84, .iload_n 2, 1, none), (85, .iload_n 3, 1, none), (86, .invokevirtual 212, 3, none), (89, .goto 27, 3, none), (92, .iload 4, 2, some [true, false, true, true, true]), (94, .iconst 2, 1, none), (95, .if_icmp .ne 20, 3, none), (98, .aload_n 0, 1, none), (99, .iload_n 2, 1, none), (100, .iload_n 3, 1, none), (101, .invokevirtual 218, 3, none), (104, .ifCond .eq 7, 3, none), (107, .iconst 1, 1, none), (108, .goto 8, 3, none), (111, .iconst 0, 1, some [false, false, false, false, false]), (112, .goto 4, 3, none), (115, .iconst (-1), 1, some [false, false, false, false, false]), (116, .ireturn, 1, some [false, false, false, false, false])]
def mi_197 : PI := (9, 5, 1, 5, 9, 5, 118, cd_197)
/-- IllLightModel.isNight(I)Z -/
def cd_198 : List (Nat × Instr × Nat × Option (List Bool)) := [(0, .aload_n 0, 1, none), (1, .iconst 1, 1, none), (2, .iload_n 1, 1, none), (3, .invokevirtual 153, 3, none), (6, .ifCond .ne 5, 3, none), (9, .iconst 0, 1, none), (10, .ireturn, 1, none), (11, .aload_n 0, 1, some [true, true]), (12, .iconst 1, 1, none), (13, .iload_n 1, 1, none), (14, .invokestatic 169, 3, none), (17, .putfield 221, 3, none), (20, .iconst 1, 1, none), (21, .ireturn, 1, none)]
def mi_198 : PI := (9, 2, 2, 2, 9, 2, 44, cd_198)
/-- IllLightModel.deed(III)I -/
def cd_199 : List (Nat × Instr × Nat × Option (List Bool)) := [(0, .aload_n 0, 1, none), (1, .iload_n 1, 1, none), (2, .invokevirtual 224, 3, none), (5, .ifCond .ne 6, 3, none), (8, .bipush (-2), 2, none), (10, .ireturn, 1, none), (11, .iload_n 2, 1, some [true, false, true, true]), (12, .iconst (-1), 1, none), (13, .if_icmp .ne 22, 3, none), (16, .iload_n 3, 1, none), (17, .ifCond .ne 15, 3, none), (20, .aload_n 0, 1, none), (21, .getfield 7, 3, none), (24, .aload_n 0, 1, none), (25, .getfield 221, 3, none), (28, .iaload, 1, none), (29, .goto 5, 3, none), (32, .bipush (-2), 2, some [false, false, false, false]), (34, .ireturn, 1, some [false, false, false, false]), (35, .iload_n 2, 1, some [true, false, true, true]), (36, .iconst 0, 1, none), (37, .aload_n 0, 1, none), (38, .getfield 7, 3, none), (41, .aload_n 0, 1, none), (42, .getfield 221, 3, none), (45, .iaload, 1, none), (46, .iconst 1, 1, none), (47, .isub, 1, none), (48, .invokestatic 99, 3, none), (51, .ifCond .eq 32, 3, none), (54, .iload_n 3, 1, none), (55, .iconst 0, 1, none), (56, .iconst 3, 1, none), (57, .invokestatic 99, 3, none), (60, .ifCond .eq 23, 3, none), (63, .aload_n 0, 1, none), (64, .getfield 7, 3, none), (67, .aload_n 0, 1, none), (68, .getfield 221, 3, none), (71, .iconst 1, 1, none), (72, .iadd, 1, none), (73, .iconst 4, 1, none), (74, .iload_n 2, 1, none), (75, .imul, 1, none), (76, .iadd, 1, none), (77, .iload_n 3, 1, none), (78, .iadd, 1, none), (79, .iaload, 1, none), (80, .goto 5, 3, none), (83, .bipush (-2), 2, some [false, false, false, false]), (85, .ireturn, 1, some [false, false, false, false])]
def mi_199 : PI := (9, 4, 1, 4, 9, 3, 65, cd_199)
/-- IllLightModel.begins()V -/
def cd_200 : List (Nat × Instr × Nat × Option (List Bool)) := [(0, .aload_n 0, 1, none), (1, .invokevirtual 215, 3, none), (4, .iconst 0, 1, none), (5, .istore_n 1, 1, none), (6, .iload_n 1, 1, some [true, true]), (7, .iconst 4, 1, none), (8, .if_icmp .ge 21, 3, none), (11, .aload_n 0, 1, none), (12, .getfield 26, 3, none), (15, .iload_n 1, 1, none), (16, .aload_n 0, 1, none), (17, .iload_n 1, 1, none), (18, .iconst 0, 1, none), (19, .invokevirtual 196, 3, none), (22, .iastore, 1, none), (23, .iinc 1 1, 3, none), (26, .goto (-20), 3, none), (29, .aload_n 0, 1, some [true, false]), (30, .iconst 0, 1, none), (31, .putfield 227, 3, none), (34, .aload_n 0, 1, none), (35, .iconst 0, 1, none), (36, .putfield 230, 3, none), (39, .aload_n 0, 1, none), (40, .iconst 0, 1, none), (41, .putfield 233, 3, none), (44, .aload_n 0, 1, none), (45, .iconst 0, 1, none), (46, .putfield 236, 3, none), (49, .aload_n 0, 1, none), (50, .iconst 0, 1, none), (51, .putfield 239, 3, none), (54, .return_, 1, none)]
def mi_200 : PI := (9, 2, 0, 1, 9, 2, 43, cd_200)
/-- IllLightModel.isLost(I)Z -/
def cd_201 : List (Nat × Instr × Nat × Option (List Bool)) := [(0, .aload_n 0, 1, none), (1, .getfield 230, 3, none), (4, .aload_n 0, 1, none), (5, .getfield 233, 3, none), (8, .ior, 1, none), (9, .iload_n 1, 1, none), (10, .ishr, 1, none), (11, .iconst 1, 1, none), (12, .iand, 1, none), (13, .iconst 1, 1, none), (14, .if_icmp .ne 7, 3, none), (17, .iconst 1, 1, none), (18, .goto 4, 3, none), (21, .iconst 0, 1, some [false, false]), (22, .ireturn, 1, some [false, false])]
def mi_201 : PI := (9, 2, 2, 2, 9, 0, 0, cd_201)
/-- IllLightModel.stepTo(II)I -/
def cd_202 : List (Nat × Instr × Nat × Option (List Bool)) := [(0, .iload_n 1, 1, none), (1, .aload_n 0, 1, none), (2, .getfield 181, 3, none), (5, .irem, 1, none), (6, .iload_n 2, 1, none), (7, .iconst 1, 1, none), (8, .if_icmp .ne 7, 3, none), (11, .iconst 1, 1, none), (12, .goto 13, 3, none), (15, .iload_n 2, 1, some [true, true, true, false, false]), (16, .iconst 3, 1, none), (17, .if_icmp .ne 7, 3, none), (20, .iconst (-1), 1, none), (21, .goto 4, 3, none), (24, .iconst 0, 1, some [true, true, true, false, false]), (25, .iadd, 1, some [true, true, true, false, false]), (26, .istore_n 3, 1, none), (27, .iload_n 1, 1, none), (28, .aload_n 0, 1, none), (29, .getfield 181, 3, none), (32, .idiv, 1, none), (33, .iload_n 2, 1, none), (34, .iconst 2, 1, none), (35, .if_icmp .ne 7, 3, none), (38, .iconst 1, 1, none), (39, .goto 12, 3, none), (42, .iload_n 2, 1, some [true, false, true, true, false]), (43, .ifCond .ne 7, 3, none), (46, .iconst (-1), 1, none), (47, .goto 4, 3, none), (50, .iconst 0, 1, some [true, false, false, true, false]), (51, .iadd, 1, some [true, false, false, true, false]), (52, .istore 4, 2, none), (54, .iload_n 3, 1, none), (55, .iconst 0, 1, none), (56, .aload_n 0, 1, none), (57, .getfield 181, 3, none), (60, .iconst 1, 1, none), (61, .isub, 1, none), (62, .invokestatic 99, 3, none), (65, .ifCond .eq 30, 3, none), (68, .iload 4, 2, none), (70, .iconst 0, 1, none), (71, .aload_n 0, 1, none), (72, .getfield 184, 3, none), (75, .iconst 1, 1, none), (76, .isub, 1, none), (77, .invokestatic 99, 3, none), (80, .ifCond .eq 15, 3, none), (83, .aload_n 0, 1, none), (84, .getfield 181, 3, none), (87, .iload 4, 2, none), (89, .imul, 1, none), (90, .iload_n 3, 1, none), (91, .iadd, 1, none), (92, .goto 4, 3, none), (95, .iconst (-1), 1, some [false, false, false, false, false]), (96, .ireturn, 1, some [false, false, false, false, false])]
def mi_202 : PI := (9, 5, 1, 3, 9, 1, 22, cd_202)
/-- IllLightModel.far(II)I -/
def cd_203 : List (Nat × Instr × Nat × Option (List Bool)) := [(0, .iload_n 0, 1, none), (1, .iload_n 1, 1, none), (2, .if_icmp .le 9, 3, none), (5, .iload_n 0, 1, none), (6, .iload_n 1, 1, none), (7, .isub, 1, none), (8, .goto 6, 3, none), (11, .iload_n 1, 1, some [true, true]), (12, .iload_n 0, 1, none), (13, .isub, 1, none), (14, .ireturn, 1, some [false, false])]
def mi_203 : PI := (9, 2, 1, 2, 0, 0, 0, cd_203)
/-- IllLightModel.apart(II)I -/
def cd_204 : List (Nat × Instr × Nat × Option (List Bool)) := [(0, .iload_n 1, 1, none), (1, .aload_n 0, 1, none), (2, .getfield 181, 3, none), (5, .irem, 1, none), (6, .iload_n 2, 1, none), (7, .aload_n 0, 1, none), (8, .getfield 181, 3, none), (11, .irem, 1, none), (12, .invokestatic 242, 3, none), (15, .iload_n 1, 1, none), (16, .aload_n 0, 1, none), (17, .getfield 181, 3, none), (20, .idiv, 1, none), (21, .iload_n 2, 1, none), (22, .aload_n 0, 1, none), (23, .getfield 181, 3, none), (26, .idiv, 1, none), (27, .invokestatic 242, 3, none), (30, .iadd, 1, none), (31, .ireturn, 1, none)]
def mi_204 : PI := (9, 3, 1, 3, 9, 1, 21, cd_204)
/-- IllLightModel.side(I)I -/
def cd_205 : List (Nat × Instr × Nat × Option (List Bool)) := [(0, .iload_n 0, 1, none), (1, .ifCond .le 7, 3, none), (4, .iconst 1, 1, none), (5, .goto 12, 3, none), (8, .iload_n 0, 1, some [true]), (9, .ifCond .ge 7, 3, none), (12, .iconst (-1), 1, none), (13, .goto 4, 3, none), (16, .iconst 0, 1, some [false]), (17, .ireturn, 1, some [false])]
def mi_205 : PI := (9, 1, 1, 1, 0, 0, 0, cd_205)
/-- IllLightModel.isBetween(II)Z -/
def cd_206 : List (Nat × Instr × Nat × Option (List Bool)) := [(0, .aload_n 0, 1, none), (1, .getfield 7, 3, none), (4, .aload_n 0, 1, none), (5, .getfield 178, 3, none), (8, .iconst 2, 1, none), (9, .iadd, 1, none), (10, .iaload, 1, none), (11, .istore_n 3, 1, none), (12, .iload_n 2, 1, none), (13, .aload_n 0, 1, none), (14, .getfield 181, 3, none), (17, .irem, 1, none), (18, .iload_n 3, 1, none), (19, .aload_n 0, 1, none), (20, .getfield 181, 3, none), (23, .irem, 1, none), (24, .isub, 1, none), (25, .istore 4, 2, none), (27, .iload_n 2, 1, none), (28, .aload_n 0, 1, none), (29, .getfield 181, 3, none), (32, .idiv, 1, none), (33, .iload_n 3, 1, none), (34, .aload_n 0, 1, none), (35, .getfield 181, 3, none), (38, .idiv, 1, none), (39, .isub, 1, none), (40, .istore 5, 2, none), (42, .iload_n 1, 1, none), (43, .aload_n 0, 1, none), (44, .getfield 181, 3, none), (47, .irem, 1, none), (48, .iload_n 3, 1, none), (49, .aload_n 0, 1, none), (50, .getfield 181, 3, none), (53, .irem, 1, none), (54, .isub, 1, none), (55, .istore 6, 2, none), (57, .iload_n 1, 1, none), (58, .aload_n 0, 1, none), (59, .getfield 181, 3, none), (62, .idiv, 1, none), (63, .iload_n 3, 1, none), (64, .aload_n 0, 1, none), (65, .getfield 181, 3, none), (68, .idiv, 1, none), (69, .isub, 1, none), (70, .istore 7, 2, none), (72, .iload 4, 2, none), (74, .ifCond .eq 8, 3, none), (77, .iload 5, 2, none), (79, .ifCond .ne 29, 3, none), (82, .iload 4, 2, some [true, true, true, true, true, true, true, true]), (84, .invokestatic 245, 3, none), (87, .iload 6, 2, none), (89, .invokestatic 245, 3, none), (92, .if_icmp .ne 16, 3, none), (95, .iload 5, 2, none), (97, .invokestatic 245, 3, none), (100, .iload 7, 2, none), (102, .invokestatic 245, 3, none), (105, .if_icmp .eq 5, 3, none), (108, .iconst 0, 1, some [false, false, false, false, false, false, false, false]), (109, .ireturn, 1, none), (110, .aload_n 0, 1, some [true, true, true, true, false, false, false, false]), (111, .iload_n 1, 1, none), (112, .iload_n 3, 1, none), (113, .invokevirtual 248, 3, none), (116, .aload_n 0, 1, none), (117, .iload_n 2, 1, none), (118, .iload_n 3, 1, none), (119, .invokevirtual 248, 3, none), (122, .if_icmp .ge 7, 3, none), (125, .iconst 1, 1, none), (126, .goto 4, 3, none), (129, .iconst 0, 1, some [false, false, false, false, false, false, false, false]), (130, .ireturn, 1, some [false, false, false, false, false, false, false, false])]
def mi_206 : PI := (9, 8, 2, 3, 9, 2, 43, cd_206)
/-- IllLightModel.shadeOf(I)I -/
def cd_207 : List (Nat × Instr × Nat × Option (List Bool)) := [(0, .iconst (-1), 1, none), (1, .istore_n 2, 1, none), (2, .iconst 0, 1, none), (3, .istore_n 3, 1, none), (4, .iload_n 3, 1, some [true, true, true, true]), (5, .aload_n 0, 1, none), (6, .getfield 187, 3, none), (9, .if_icmp .ge 60, 3, none), (12, .iload_n 3, 1, none), (13, .iload_n 1, 1, none), (14, .if_icmp .eq 49, 3, none), (17, .aload_n 0, 1, none), (18, .iload_n 3, 1, none), (19, .invokevirtual 251, 3, none), (22, .ifCond .ne 41, 3, none), (25, .aload_n 0, 1, none), (26, .aload_n 0, 1, none), (27, .getfield 26, 3, none), (30, .iload_n 3, 1, none), (31, .iaload, 1, none), (32, .aload_n 0, 1, none), (33, .getfield 26, 3, none), (36, .iload_n 1, 1, none), (37, .iaload, 1, none), (38, .invokevirtual 254, 3, none), (41, .ifCond .ne 6, 3, none), (44, .goto 19, 3, none), (47, .iload_n 2, 1, some [true, true, true, true]), (48, .iconst (-1), 1, none), (49, .if_icmp .eq 12, 3, none), (52, .aload_n 0, 1, none), (53, .iload_n 3, 1, none), (54, .iload_n 2, 1, none), (55, .invokevirtual 257, 3, none), (58, .ifCond .eq 5, 3, none), (61, .iload_n 3, 1, some [true, true, false, true]), (62, .istore_n 2, 1, none), (63, .iinc 3 1, 3, some [true, true, true, true]), (66, .goto (-62), 3, none), (69, .iload_n 2, 1, some [false, false, true, false]), (70, .ireturn, 1, none)]
def mi_207 : PI := (9, 4, 1, 2, 9, 3, 70, cd_207)
/-- IllLightModel.isNearer(II)Z -/
def cd_208 : List (Nat × Instr × Nat × Option (List Bool)) := [(0, .aload_n 0, 1, none), (1, .aload_n 0, 1, none), (2, .getfield 26, 3, none), (5, .iload_n 1, 1, none), (6, .iaload, 1, none), (7, .aload_n 0, 1, none), (8, .getfield 7, 3, none), (11, .aload_n 0, 1, none), (12, .getfield 178, 3, none), (15, .iconst 2, 1, none), (16, .iadd, 1, none), (17, .iaload, 1, none), (18, .invokevirtual 248, 3, none), (21, .aload_n 0, 1, none), (22, .aload_n 0, 1, none), (23, .getfield 26, 3, none), (26, .iload_n 2, 1, none), (27, .iaload, 1, none), (28, .aload_n 0, 1, none), (29, .getfield 7, 3, none), (32, .aload_n 0, 1, none), (33, .getfield 178, 3, none), (36, .iconst 2, 1, none), (37, .iadd, 1, none), (38, .iaload, 1, none), (39, .invokevirtual 248, 3, none), (42, .if_icmp .ge 7, 3, none), (45, .iconst 1, 1, none), (46, .goto 4, 3, none), (49, .iconst 0, 1, some [false, false, false]), (50, .ireturn, 1, some [false, false, false])]
def mi_208 : PI := (9, 3, 2, 3, 9, 2, 43, cd_208)
/-- IllLightModel.isBeamed(I)Z -/
def cd_209 : List (Nat × Instr × Nat × Option (List Bool)) := [(0, .aload_n 0, 1, none), (1, .iload_n 1, 1, none), (2, .invokevirtual 260, 3, none), (5, .istore_n 2, 1, none), (6, .aload_n 0, 1, none), (7, .iload_n 2, 1, none), (8, .iconst (-1), 1, none), (9, .if_icmp .ne 7, 3, none), (12, .iload_n 1, 1, none), (13, .goto 4, 3, none), (16, .iload_n 2, 1, some [true, false, true]), (17, .aload_n 0, 1, some [true, false, false]), (18, .getfield 236, 3, none), (21, .invokevirtual 218, 3, none), (24, .ireturn, 1, none)]
def mi_209 : PI := (9, 3, 2, 2, 9, 5, 118, cd_209)
/-- IllLightModel.isGuarded(I)Z -/
def cd_210 : List (Nat × Instr × Nat × Option (List Bool)) := [(0, .iconst 0, 1, none), (1, .istore_n 2, 1, none), (2, .iconst 0, 1, none), (3, .istore_n 3, 1, none), (4, .iload_n 3, 1, some [true, true, true, true]), (5, .aload_n 0, 1, none), (6, .getfield 7, 3, none), (9, .aload_n 0, 1, none), (10, .getfield 178, 3, none), (13, .iconst 4, 1, none), (14, .iadd, 1, none), (15, .iaload, 1, none), (16, .if_icmp .ge 61, 3, none), (19, .iload_n 2, 1, none), (20, .ifCond .ne 45, 3, none), (23, .aload_n 0, 1, none), (24, .iload_n 1, 1, none), (25, .aload_n 0, 1, none), (26, .getfield 7, 3, none), (29, .aload_n 0, 1, none), (30, .getfield 178, 3, none), (33, .bipush 6, 2, none), (35, .iadd, 1, none), (36, .iconst 2, 1, none), (37, .iload_n 3, 1, none), (38, .imul, 1, none), (39, .iadd, 1, none), (40, .iaload, 1, none), (41, .invokevirtual 248, 3, none), (44, .aload_n 0, 1, none), (45, .getfield 7, 3, none), (48, .aload_n 0, 1, none), (49, .getfield 178, 3, none), (52, .bipush 6, 2, none), (54, .iadd, 1, none), (55, .iconst 2, 1, none), (56, .iload_n 3, 1, none), (57, .imul, 1, none), (58, .iadd, 1, none), (59, .iconst 1, 1, none), (60, .iadd, 1, none), (61, .iaload, 1, none), (62, .if_icmp .gt 7, 3, none), (65, .iconst 1, 1, some [true, true, false, true]), (66, .goto 4, 3, none), (69, .iconst 0, 1, some [true, true, false, true]), (70, .istore_n 2, 1, some [true, true, false, true]), (71, .iinc 3 1, 3, none), (74, .goto (-70), 3, none), (77, .iload_n 2, 1, some [false, false, true, false]), (78, .ireturn, 1, none)]
def mi_210 : PI := (9, 4, 2, 2, 9, 2, 43, cd_210)
/-- IllLightModel.isRock(I)Z -/
def cd_211 : List (Nat × Instr × Nat × Option (List Bool)) := [(0, .aload_n 0, 1, none), (1, .getfield 7, 3, none), (4, .aload_n 0, 1, none), (5, .getfield 178, 3, none), (8, .bipush 78, 2, none), (10, .iadd, 1, none), (11, .iload_n 1, 1, none), (12, .iadd, 1, none), (13, .iaload, 1, none), (14, .iconst 1, 1, none), (15, .if_icmp .ne 7, 3, none), (18, .iconst 1, 1, none), (19, .goto 4, 3, none), (22, .iconst 0, 1, some [false, false]), (23, .ireturn, 1, some [false, false])]
def mi_211 : PI := (9, 2, 2, 2, 9, 0, 0, cd_211)
/-- IllLightModel.passesHour()V -/
def cd_212 : List (Nat × Instr × Nat × Option (List Bool)) := [(0, .iconst 0, 1, none), (1, .istore_n 1, 1, none), (2, .iconst 0, 1, none), (3, .istore_n 2, 1, none), (4, .iconst 0, 1, none), (5, .istore_n 3, 1, none), (6, .iload_n 3, 1, some [true, true, true, true, false]), (7, .aload_n 0, 1, none), (8, .getfield 187, 3, none), (11, .if_icmp .ge 83, 3, none), (14, .aload_n 0, 1, none), (15, .iload_n 3, 1, none), (16, .invokevirtual 251, 3, none), (19, .ifCond .eq 6, 3, none), (22, .goto 66, 3, none), (25, .aload_n 0, 1, some [true, true, true, true, false]), (26, .iload_n 3, 1, none), (27, .invokevirtual 263, 3, none), (30, .istore 4, 2, none), (32, .iload_n 1, 1, none), (33, .iload 4, 2, none), (35, .ifCond .ne 22, 3, none), (38, .aload_n 0, 1, none), (39, .aload_n 0, 1, none), (40, .getfield 26, 3, none), (43, .iload_n 3, 1, none), (44, .iaload, 1, none), (45, .invokevirtual 266, 3, none), (48, .ifCond .eq 9, 3, none), (51, .iconst 1, 1, none), (52, .iload_n 3, 1, none), (53, .ishl, 1, none), (54, .goto 4, 3, none), (57, .iconst 0, 1, some [true, false, true, true, true]), (58, .ior, 1, some [true, false, true, true, true]), (59, .istore_n 1, 1, none), (60, .iload_n 2, 1, none), (61, .iload 4, 2, none), (63, .ifCond .eq 22, 3, none), (66, .aload_n 0, 1, none), (67, .aload_n 0, 1, none), (68, .getfield 26, 3, none), (71, .iload_n 3, 1, none), (72, .iaload, 1, none), (73, .invokevirtual 269, 3, none), (76, .ifCond .eq 9, 3, none), (79, .iconst 1, 1, none), (80, .iload_n 3, 1, none), (81, .ishl, 1, none), (82, .goto 4, 3, none), (85, .iconst 0, 1, some [true, true, false, true, false]), (86, .ior, 1, some [true, true, false, true, false]), (87, .istore_n 2, 1, none), (88, .iinc 3 1, 3, some [true, true, true, true, false]), (91, .goto (-85), 3, none), (94, .aload_n 0, 1, some [true, true, true, false, false]), (95, .dup, 1, none), (96, .getfield 230, 3, none), (99, .iload_n 1, 1, none), (100, .ior, 1, none), (101, .putfield 230, 3, none), (104, .aload_n 0, 1, none), (105, .dup, 1, none), (106, .getfield 233, 3, none), (109, .iload_n 2, 1, none), (110, .ior, 1, none), (111, .putfield 233, 3, none), (114, .aload_n 0, 1, none), (115, .iconst 0, 1, none), (116, .putfield 227, 3, none), (119, .aload_n 0, 1, none), (120, .dup, 1, none), (121, .getfield 236, 3, none), (124, .iconst 1, 1, none), (125, .iadd, 1, none), (126, .putfield 236, 3, none), (129, .return_, 1, none)]
def mi_212 : PI := (9, 5, 0, 1, 9, 6, 140, cd_212)
/-- IllLightModel.does(IIII)Z -/
def cd_213 : List (Nat × Instr × Nat × Option (List Bool)) := [(0, .iload_n 1, 1, none), (1, .iconst 3, 1, none), (2, .if_icmp .ne 20, 3, none), (5, .aload_n 0, 1, none), (6, .getfield 236, 3, none), (9, .bipush 23, 2, none), (11, .if_icmp .lt 5, 3, none), (14, .iconst 0, 1, none), (15, .ireturn, 1, none), (16, .aload_n 0, 1, some [true, false, false, false, false, false]), (17, .invokevirtual 272, 3, none), (20, .iconst 1, 1, none), (21, .ireturn, 1, none), (22, .aload_n 0, 1, some [true, true, true, true, true, false]), (23, .iload_n 2, 1, none), (24, .invokevirtual 193, 3, none), (27, .ifCond .eq 11, 3, none), (30, .aload_n 0, 1, none), (31, .iload_n 2, 1, none), (32, .invokevirtual 251, 3, none), (35, .ifCond .eq 5, 3, none), (38, .iconst 0, 1, some [false, false, false, false, false, false]), (39, .ireturn, 1, none), (40, .iload_n 1, 1, some [true, true, true, true, true, false]), (41, .lookupswitch 127 #[(0, 27), (1, 82)], 27, none), (68, .aload_n 0, 1, some [true, false, true, true, false, false]), (69, .aload_n 0, 1, none), (70, .getfield 26, 3, none), (73, .iload_n 2, 1, none), (74, .iaload, 1, none), (75, .iload_n 3, 1, none), (76, .invokevirtual 275, 3, none), (79, .istore 5, 2, none), (81, .aload_n 0, 1, none), (82, .getfield 227, 3, none), (85, .iload_n 2, 1, none), (86, .ishr, 1, none), (87, .iconst 1, 1, none), (88, .iand, 1, none), (89, .iconst 1, 1, none), (90, .if_icmp .eq 9, 3, none), (93, .iload 5, 2, none), (95, .iconst (-1), 1, none), (96, .if_icmp .ne 5, 3, none), (99, .iconst 0, 1, some [false, false, false, false, false, false]), (100, .ireturn, 1, none), (101, .aload_n 0, 1, some [true, false, true, false, false, true]), (102, .dup, 1, none), (103, .getfield 227, 3, none), (106, .iconst 1, 1, none), (107, .iload_n 2, 1, none), (108, .ishl, 1, none), (109, .ior, 1, none), (110, .putfield 227, 3, none), (113, .aload_n 0, 1, none), (114, .getfield 26, 3, none), (117, .iload_n 2, 1, none), (118, .iload 5, 2, none), (120, .iastore, 1, none), (121, .iconst 1, 1, none), (122, .ireturn, 1, none), (123, .iload_n 3, 1, some [true, false, true, true, true, false]), (124, .aload_n 0, 1, none), (125, .iload_n 2, 1, none), (126, .iconst 3, 1, none), (127, .invokevirtual 196, 3, none), (130, .if_icmp .lt 5, 3, none), (133, .iconst 0, 1, none), (134, .ireturn, 1, none), (135, .aload_n 0, 1, some [true, false, true, true, true, false]), (136, .getfield 20, 3, none), (139, .bipush 12, 2, none), (141, .iload_n 2, 1, none), (142, .imul, 1, none), (143, .iconst 3, 1, none), (144, .iload_n 3, 1, none), (145, .imul, 1, none), (146, .iadd, 1, none), (147, .iconst 0, 1, none), (148, .iastore, 1, none), (149, .aload_n 0, 1, none), (150, .getfield 20, 3, none), (153, .bipush 12, 2, none), (155, .iload_n 2, 1, none), (156, .imul, 1, none), (157, .iconst 3, 1, none), (158, .iload_n 3, 1, none), (159, .imul, 1, none), (160, .iadd, 1, none), (161, .iconst 1, 1, none), (162, .iadd, 1, none), (163, .iload 4, 2, none), (165, .iastore, 1, none), (166, .iconst 1, 1, none), (167, .ireturn, 1, none), (168, .aload_n 0, 1, some [true, false, true, false, false, false]), (169, .getfield 23, 3, none), (172, .iload_n 2, 1, none), (173, .iaload, 1, none), (174, .ifCond .ne 5, 3, none), (177, .iconst 0, 1, none), (178, .ireturn, 1, none), (179, .aload_n 0, 1, some [true, false, true, false, false, false]), (180, .getfield 23, 3, none), (183, .iload_n 2, 1, none), (184, .dup2, 1, none), (185, .iaload, 1, none), (186, .iconst 1, 1, none), (187, .isub, 1, none), (188, .iastore, 1, none), (189, .iconst 1, 1, none), (190, .ireturn, 1, none)]
def mi_213 : PI := (9, 6, 2, 5, 9, 7, 164, cd_213)
/-- IllLightModel.runs(I)V -/
def cd_214 : List (Nat × Instr × Nat × Option (List Bool)) := [(0, .aload_n 0, 1, none), (1, .invokevirtual 278, 3, none), (4, .aload_n 0, 1, some [true, true]), (5, .getfield 239, 3, none), (8, .iload_n 1, 1, none), (9, .if_icmp .ge 111, 3, none), (12, .aload_n 0, 1, none), (13, .getfield 239, 3, none), (16, .aload_n 0, 1, none), (17, .getfield 7, 3, none), (20, .aload_n 0, 1, none), (21, .getfield 221, 3, none), (24, .iaload, 1, none), (25, .if_icmp .ge 95, 3, none), (28, .aload_n 0, 1, none), (29, .aload_n 0, 1, none), (30, .getfield 7, 3, none), (33, .aload_n 0, 1, none), (34, .getfield 221, 3, none), (37, .iconst 1, 1, none), (38, .iadd, 1, none), (39, .iconst 4, 1, none), (40, .aload_n 0, 1, none), (41, .getfield 239, 3, none), (44, .imul, 1, none), (45, .iadd, 1, none), (46, .iaload, 1, none), (47, .aload_n 0, 1, none), (48, .getfield 7, 3, none), (51, .aload_n 0, 1, none), (52, .getfield 221, 3, none), (55, .iconst 2, 1, none), (56, .iadd, 1, none), (57, .iconst 4, 1, none), (58, .aload_n 0, 1, none), (59, .getfield 239, 3, none), (62, .imul, 1, none), (63, .iadd, 1, none), (64, .iaload, 1, none), (65, .aload_n 0, 1, none), (66, .getfield 7, 3, none), (69, .aload_n 0, 1, none), (70, .getfield 221, 3, none), (73, .iconst 3, 1, none), (74, .iadd, 1, none), (75, .iconst 4, 1, none), (76, .aload_n 0, 1, none), (77, .getfield 239, 3, none), (80, .imul, 1, none), (81, .iadd, 1, none), (82, .iaload, 1, none), (83, .aload_n 0, 1, none), (84, .getfield 7, 3, none), (87, .aload_n 0, 1, none), (88, .getfield 221, 3, none), (91, .iconst 4, 1, none), (92, .iadd, 1, none), (93, .iconst 4, 1, none), (94, .aload_n 0, 1, none), (95, .getfield 239, 3, none), (98, .imul, 1, none), (99, .iadd, 1, none), (100, .iaload, 1, none), (101, .invokevirtual 281, 3, none), (104, .ifCond .eq 16, 3, none), (107, .aload_n 0, 1, none), (108, .dup, 1, none), (109, .getfield 239, 3, none), (112, .iconst 1, 1, none), (113, .iadd, 1, none), (114, .putfield 239, 3, none), (117, .goto (-113), 3, none), (120, .return_, 1, some [false, false])]
def mi_214 : PI := (9, 2, 0, 2, 9, 8, 189, cd_214)
/-- IllLightModel.stop(II)I -/
def cd_215 : List (Nat × Instr × Nat × Option (List Bool)) := [(0, .aload_n 0, 1, none), (1, .iload_n 1, 1, none), (2, .invokevirtual 190, 3, none), (5, .ifCond .eq 11, 3, none), (8, .aload_n 0, 1, none), (9, .iload_n 2, 1, none), (10, .invokevirtual 224, 3, none), (13, .ifCond .ne 5, 3, none), (16, .iconst (-1), 1, some [false, false, false]), (17, .ireturn, 1, none), (18, .aload_n 0, 1, some [true, false, false]), (19, .bipush 40, 2, none), (21, .invokevirtual 285, 3, none), (24, .aload_n 0, 1, none), (25, .getfield 239, 3, none), (28, .ireturn, 1, none)]
def mi_215 : PI := (9, 3, 1, 3, 9, 9, 210, cd_215)
/-- IllLightModel.nowOf(I)I -/
def cd_216 : List (Nat × Instr × Nat × Option (List Bool)) := [(0, .iload_n 1, 1, none), (1, .iconst 3, 1, none), (2, .if_icmp .ge 31, 3, none), (5, .iload_n 1, 1, none), (6, .ifCond .ne 10, 3, none), (9, .aload_n 0, 1, none), (10, .getfield 236, 3, none), (13, .goto 19, 3, none), (16, .iload_n 1, 1, some [true, true, false, false]), (17, .iconst 1, 1, none), (18, .if_icmp .ne 10, 3, none), (21, .aload_n 0, 1, none), (22, .getfield 230, 3, none), (25, .goto 7, 3, none), (28, .aload_n 0, 1, some [true, false, false, false]), (29, .getfield 233, 3, none), (32, .ireturn, 1, some [false, false, false, false]), (33, .iload_n 1, 1, some [true, true, false, false]), (34, .bipush 10, 2, none), (36, .irem, 1, none), (37, .istore_n 2, 1, none), (38, .iload_n 1, 1, none), (39, .bipush 10, 2, none), (41, .bipush 49, 2, none), (43, .invokestatic 99, 3, none), (46, .ifCond .eq 104, 3, none), (49, .aload_n 0, 1, none), (50, .iload_n 2, 1, none), (51, .invokevirtual 193, 3, none), (54, .ifCond .ne 6, 3, none), (57, .bipush (-2), 2, none), (59, .ireturn, 1, none), (60, .iload_n 1, 1, some [true, true, true, false]), (61, .bipush 10, 2, none), (63, .idiv, 1, none), (64, .tableswitch 64 1 3 #[28, 47, 54], 28, none), (92, .aload_n 0, 1, some [true, false, true, false]), (93, .iload_n 2, 1, none), (94, .invokevirtual 251, 3, none), (97, .ifCond .eq 7, 3, none), (100, .iconst (-1), 1, none), (101, .goto 9, 3, none), (104, .aload_n 0, 1, some [true, false, true, false]), (105, .getfield 26, 3, none), (108, .iload_n 2, 1, none), (109, .iaload, 1, none), (110, .ireturn, 1, some [false, false, false, false]), (111, .aload_n 0, 1, some [true, false, true, false]), (112, .getfield 23, 3, none), (115, .iload_n 2, 1, none), (116, .iaload, 1, none), (117, .ireturn, 1, none), (118, .aload_n 0, 1, some [true, false, true, false]), (119, .iload_n 2, 1, none), (120, .aload_n 0, 1, none), (121, .getfield 236, 3, none), (124, .invokevirtual 209, 3, none), (127, .ireturn, 1, none), (128, .aload_n 0, 1, some [true, false, true, false]), (129, .iload_n 2, 1, none), (130, .invokevirtual 251, 3, none), (133, .ifCond .ne 15, 3, none), (136, .aload_n 0, 1, none), (137, .iload_n 2, 1, none), (138, .invokevirtual 263, 3, none), (141, .ifCond .eq 7, 3, none), (144, .iconst 1, 1, none), (145, .goto 4, 3, none), (148, .iconst 0, 1, some [false, false, false, false]), (149, .ireturn, 1, some [false, false, false, false]), (150, .iload_n 1, 1, some [true, true, false, false]), (151, .bipush 50, 2, none), (153, .isub, 1, none), (154, .iconst 4, 1, none), (155, .irem, 1, none), (156, .istore_n 3, 1, none), (157, .iload_n 1, 1, none), (158, .bipush 50, 2, none), (160, .isub, 1, none), (161, .iconst 4, 1, none), (162, .idiv, 1, none), (163, .istore_n 2, 1, none), (164, .iload_n 1, 1, none), (165, .bipush 50, 2, none), (167, .if_icmp .lt 34, 3, none), (170, .aload_n 0, 1, none), (171, .iload_n 2, 1, none), (172, .invokevirtual 193, 3, none), (175, .ifCond .eq 26, 3, none), (178, .iload_n 3, 1, none), (179, .aload_n 0, 1, none), (180, .iload_n 2, 1, none), (181, .iconst 3, 1, none), (182, .invokevirtual 196, 3, none), (185, .if_icmp .ge 16, 3, none), (188, .aload_n 0, 1, none), (189, .iload_n 2, 1, none), (190, .iload_n 3, 1, none), (191, .aload_n 0, 1, none), (192, .getfield 236, 3, none), (195, .invokevirtual 205, 3, none), (198, .goto 5, 3, none), (201, .bipush (-2), 2, some [false, false, false, false]), (203, .ireturn, 1, some [false, false, false, false])]
def mi_216 : PI := (9, 4, 1, 2, 9, 6, 140, cd_216)
/-- IllLightModel.state(IIII)I -/
def cd_217 : List (Nat × Instr × Nat × Option (List Bool)) := [(0, .aload_n 0, 1, none), (1, .iload_n 1, 1, none), (2, .invokevirtual 190, 3, none), (5, .ifCond .eq 20, 3, none), (8, .aload_n 0, 1, none), (9, .iload_n 2, 1, none), (10, .invokevirtual 224, 3, none), (13, .ifCond .eq 12, 3, none), (16, .iload_n 3, 1, none), (17, .ifCond .lt 8, 3, none), (20, .iload 4, 2, none), (22, .ifCond .ge 6, 3, none), (25, .bipush (-2), 2, some [false, false, false, false, false]), (27, .ireturn, 1, none), (28, .aload_n 0, 1, some [true, false, false, true, true]), (29, .iload_n 3, 1, none), (30, .invokevirtual 285, 3, none), (33, .aload_n 0, 1, none), (34, .getfield 239, 3, none), (37, .iload_n 3, 1, none), (38, .if_icmp .ne 12, 3, none), (41, .aload_n 0, 1, none), (42, .iload 4, 2, none), (44, .invokevirtual 288, 3, none), (47, .goto 5, 3, none), (50, .bipush (-2), 2, some [false, false, false, false, false]), (52, .ireturn, 1, some [false, false, false, false, false])]
def mi_217 : PI := (9, 5, 1, 5, 9, 9, 210, cd_217)
/-- IllLightModel.isSafe(IIII)Z -/
def cd_218 : List (Nat × Instr × Nat × Option (List Bool)) := [(0, .iload 4, 2, none), (2, .iconst 1, 1, none), (3, .if_icmp .eq 20, 3, none), (6, .iload 4, 2, none), (8, .ifCond .ne 19, 3, none), (11, .aload_n 0, 1, none), (12, .iload_n 1, 1, none), (13, .iload_n 3, 1, none), (14, .bipush 24, 2, none), (16, .irem, 1, none), (17, .invokevirtual 218, 3, none), (20, .ifCond .eq 7, 3, none), (23, .iconst 1, 1, some [true, false, true, false, false, false]), (24, .goto 4, 3, none), (27, .iconst 0, 1, some [true, false, true, false, false, false]), (28, .istore 5, 2, some [true, false, true, false, false, false]), (30, .iload 5, 2, none), (32, .ifCond .eq 19, 3, none), (35, .aload_n 0, 1, none), (36, .iload_n 2, 1, none), (37, .invokevirtual 269, 3, none), (40, .ifCond .ne 7, 3, none), (43, .iconst 1, 1, none), (44, .goto 20, 3, none), (47, .iconst 0, 1, some [false, false, false, false, false, false]), (48, .goto 16, 3, none), (51, .aload_n 0, 1, some [true, false, true, false, false, false]), (52, .iload_n 2, 1, none), (53, .invokevirtual 266, 3, none), (56, .ifCond .ne 7, 3, none), (59, .iconst 1, 1, none), (60, .goto 4, 3, none), (63, .iconst 0, 1, some [false, false, false, false, false, false]), (64, .ireturn, 1, some [false, false, false, false, false, false])]
def mi_218 : PI := (9, 6, 2, 5, 9, 5, 118, cd_218)
/-- IllLightModel.goes(IIII)V -/
def cd_219 : List (Nat × Instr × Nat × Option (List Bool)) := [(0, .iconst 0, 1, none), (1, .istore 5, 2, none), (3, .iload 5, 2, some [true, true, true, true, true, true, false, false]), (5, .bipush 64, 2, none), (7, .if_icmp .ge 40, 3, none), (10, .aload_n 0, 1, none), (11, .getfield 29, 3, none), (14, .iload 5, 2, none), (16, .iconst (-1), 1, none), (17, .iastore, 1, none), (18, .aload_n 0, 1, none), (19, .getfield 32, 3, none), (22, .iload 5, 2, none), (24, .iload 5, 2, none), (26, .aload_n 0, 1, none), (27, .iload_n 1, 1, none), (28, .iconst 0, 1, none), (29, .invokevirtual 196, 3, none), (32, .if_icmp .ne 7, 3, none), (35, .iconst 1, 1, none), (36, .goto 4, 3, none), (39, .iconst 0, 1, some [true, true, true, true, true, true, false, false]), (40, .bastore, 1, some [true, true, true, true, true, true, false, false]), (41, .iinc 5 1, 3, none), (44, .goto (-41), 3, none), (47, .aload_n 0, 1, some [true, true, true, true, true, false, false, false]), (48, .getfield 29, 3, none), (51, .aload_n 0, 1, none), (52, .iload_n 1, 1, none), (53, .iconst 0, 1, none), (54, .invokevirtual 196, 3, none), (57, .iconst 0, 1, none), (58, .iastore, 1, none), (59, .iconst 0, 1, none), (60, .istore 5, 2, none), (62, .iload 5, 2, some [true, true, true, true, true, true, false, false]), (64, .iload_n 3, 1, none), (65, .if_icmp .ge 211, 3, none), (68, .iconst 0, 1, none), (69, .istore 6, 2, none), (71, .iload 6, 2, some [true, true, true, true, true, true, true, false]), (73, .bipush 64, 2, none), (75, .if_icmp .ge 17, 3, none), (78, .aload_n 0, 1, none), (79, .getfield 35, 3, none), (82, .iload 6, 2, none), (84, .iconst 0, 1, none), (85, .bastore, 1, none), (86, .iinc 6 1, 3, none), (89, .goto (-18), 3, none), (92, .iconst 0, 1, some [true, true, true, true, true, true, false, false]), (93, .istore 6, 2, none), (95, .iload 6, 2, some [true, true, true, true, true, true, true, false]), (97, .aload_n 0, 1, none), (98, .getfield 181, 3, none), (101, .aload_n 0, 1, none), (102, .getfield 184, 3, none), (105, .imul, 1, none), (106, .if_icmp .ge 71, 3, none), (109, .aload_n 0, 1, none), (110, .getfield 32, 3, none), (113, .iload 6, 2, none), (115, .baload, 1, none), (116, .ifCond .ne 6, 3, none), (119, .goto 52, 3, none), (122, .aload_n 0, 1, some [true, true, true, true, true, true, true, false]), (123, .getfield 35, 3, none), (126, .iload 6, 2, none), (128, .iconst 1, 1, none), (129, .bastore, 1, none), (130, .iconst 0, 1, none), (131, .istore 7, 2, none), (133, .iload 7, 2, some [true, true, true, true, true, true, true, true]), (135, .iconst 4, 1, none), (136, .if_icmp .ge 35, 3, none), (139, .aload_n 0, 1, none), (140, .iload 6, 2, none), (142, .iload 7, 2, none), (144, .invokevirtual 275, 3, none), (147, .iconst (-1), 1, none), (148, .if_icmp .eq 17, 3, none), (151, .aload_n 0, 1, none), (152, .getfield 35, 3, none), (155, .aload_n 0, 1, none), (156, .iload 6, 2, none), (158, .iload 7, 2, none), (160, .invokevirtual 275, 3, none), (163, .iconst 1, 1, none), (164, .bastore, 1, none), (165, .iinc 7 1, 3, some [true, true, true, true, true, true, true, true]), (168, .goto (-35), 3, none), (171, .iinc 6 1, 3, some [true, true, true, true, true, true, true, false]), (174, .goto (-79), 3, none), (177, .iconst 0, 1, some [true, true, true, true, true, true, false, false]), (178, .istore 6, 2, none), (180, .iload 6, 2, some [true, true, true, true, true, true, true, false]), (182, .aload_n 0, 1, none), (183, .getfield 181, 3, none), (186, .aload_n 0, 1, none), (187, .getfield 184, 3, none), (190, .imul, 1, none), (191, .if_icmp .ge 79, 3, none), (194, .aload_n 0, 1, none), (195, .getfield 32, 3, none), (198, .iload 6, 2, none), (200, .aload_n 0, 1, none), (201, .getfield 35, 3, none), (204, .iload 6, 2, none), (206, .baload, 1, none), (207, .ifCond .eq 23, 3, none), (210, .aload_n 0, 1, none), (211, .iload_n 1, 1, none), (212, .iload 6, 2, none), (214, .iload_n 2, 1, none), (215, .iload 5, 2, none), (217, .iadd, 1, none), (218, .iload 4, 2, none), (220, .invokevirtual 291, 3, none), (223, .ifCond .eq 7, 3, none), (226, .iconst 1, 1, none), (227, .goto 4, 3, none), (230, .iconst 0, 1, some [true, true, true, true, true, true, true, false]), (231, .bastore, 1, some [true, true, true, true, true, true, true, false]), (232, .aload_n 0, 1, none), (233, .getfield 32, 3, none), (236, .iload 6, 2, none), (238, .baload, 1, none), (239, .ifCond .eq 25, 3, none), (242, .aload_n 0, 1, none), (243, .getfield 29, 3, none), (246, .iload 6, 2, none), (248, .iaload, 1, none), (249, .iconst (-1), 1, none), (250, .if_icmp .ne 14, 3, none), (253, .aload_n 0, 1, none), (254, .getfield 29, 3, none), (257, .iload 6, 2, none), (259, .iload 5, 2, none), (261, .iconst 1, 1, none), (262, .iadd, 1, none), (263, .iastore, 1, none), (264, .iinc 6 1, 3, some [true, true, true, true, true, true, true, false]), (267, .goto (-87), 3, none), (270, .iinc 5 1, 3, some [true, true, true, true, true, true, false, false]), (273, .goto (-211), 3, none), (276, .return_, 1, some [false, false, false, false, false, false, false, false])]
def mi_219 : PI := (9, 8, 0, 5, 9, 6, 143, cd_219)
/-- IllLightModel.way(III)I -/
def cd_220 : List (Nat × Instr × Nat × Option (List Bool)) := [(0, .aload_n 0, 1, none), (1, .iload_n 1, 1, none), (2, .invokevirtual 190, 3, none), (5, .ifCond .eq 19, 3, none), (8, .aload_n 0, 1, none), (9, .iload_n 2, 1, none), (10, .invokevirtual 193, 3, none), (13, .ifCond .eq 11, 3, none), (16, .aload_n 0, 1, none), (17, .iload_n 3, 1, none), (18, .invokevirtual 294, 3, none), (21, .ifCond .ne 5, 3, none), (24, .iconst (-1), 1, some [false, false, false, false]), (25, .ireturn, 1, none), (26, .aload_n 0, 1, some [true, false, true, true]), (27, .invokevirtual 215, 3, none), (30, .aload_n 0, 1, none), (31, .iload_n 2, 1, none), (32, .iconst 0, 1, none), (33, .bipush 60, 2, none), (35, .iconst 0, 1, none), (36, .invokevirtual 297, 3, none), (39, .aload_n 0, 1, none), (40, .getfield 29, 3, none), (43, .iload_n 3, 1, none), (44, .iaload, 1, none), (45, .ireturn, 1, none)]
def mi_220 : PI := (9, 4, 1, 4, 9, 7, 170, cd_220)
/-- IllLightModel.free(IIII)I -/
def cd_221 : List (Nat × Instr × Nat × Option (List Bool)) := [(0, .aload_n 0, 1, none), (1, .iload_n 1, 1, none), (2, .invokevirtual 190, 3, none), (5, .ifCond .eq 31, 3, none), (8, .aload_n 0, 1, none), (9, .iload_n 2, 1, none), (10, .invokevirtual 193, 3, none), (13, .ifCond .eq 23, 3, none), (16, .iload_n 3, 1, none), (17, .iconst 0, 1, none), (18, .bipush 60, 2, none), (20, .invokestatic 99, 3, none), (23, .ifCond .eq 13, 3, none), (26, .iload 4, 2, none), (28, .iconst 0, 1, none), (29, .iconst 2, 1, none), (30, .invokestatic 99, 3, none), (33, .ifCond .ne 5, 3, none), (36, .iconst (-1), 1, some [false, false, false, false, false, false, false]), (37, .ireturn, 1, none), (38, .aload_n 0, 1, some [true, false, true, true, true, false, false]), (39, .invokevirtual 215, 3, none), (42, .aload_n 0, 1, none), (43, .iload_n 2, 1, none), (44, .iconst 0, 1, none), (45, .iload_n 3, 1, none), (46, .iload 4, 2, none), (48, .invokevirtual 297, 3, none), (51, .iconst 0, 1, none), (52, .istore 5, 2, none), (54, .iconst 0, 1, none), (55, .istore 6, 2, none), (57, .iload 6, 2, some [true, false, false, false, false, true, true]), (59, .bipush 64, 2, none), (61, .if_icmp .ge 30, 3, none), (64, .iload 5, 2, none), (66, .aload_n 0, 1, none), (67, .getfield 29, 3, none), (70, .iload 6, 2, none), (72, .iaload, 1, none), (73, .iconst (-1), 1, none), (74, .if_icmp .eq 7, 3, none), (77, .iconst 1, 1, none), (78, .goto 4, 3, none), (81, .iconst 0, 1, some [true, false, false, false, false, false, true]), (82, .iadd, 1, some [true, false, false, false, false, false, true]), (83, .istore 5, 2, none), (85, .iinc 6 1, 3, none), (88, .goto (-31), 3, none), (91, .iload 5, 2, some [false, false, false, false, false, true, false]), (93, .ireturn, 1, none)]
def mi_221 : PI := (9, 7, 1, 5, 9, 7, 170, cd_221)
/-- IllLightModel.comes(IIII)Z -/
def cd_222 : List (Nat × Instr × Nat × Option (List Bool)) := [(0, .aload_n 0, 1, none), (1, .iload_n 1, 1, none), (2, .iload 4, 2, none), (4, .iload_n 3, 1, none), (5, .iconst 0, 1, none), (6, .invokevirtual 297, 3, none), (9, .aload_n 0, 1, none), (10, .getfield 29, 3, none), (13, .iload_n 2, 1, none), (14, .iaload, 1, none), (15, .iconst (-1), 1, none), (16, .if_icmp .eq 7, 3, none), (19, .iconst 1, 1, none), (20, .goto 4, 3, none), (23, .iconst 0, 1, some [false, false, false, false, false]), (24, .ireturn, 1, some [false, false, false, false, false])]
def mi_222 : PI := (9, 5, 2, 5, 9, 7, 170, cd_222)
/-- IllLightModel.bitsOf(I)I -/
def cd_223 : List (Nat × Instr × Nat × Option (List Bool)) := [(0, .iconst 0, 1, none), (1, .istore_n 1, 1, none), (2, .iconst 0, 1, none), (3, .istore_n 2, 1, none), (4, .iload_n 2, 1, some [true, true, true]), (5, .bipush 6, 2, none), (7, .if_icmp .ge 17, 3, none), (10, .iload_n 1, 1, none), (11, .iload_n 0, 1, none), (12, .iload_n 2, 1, none), (13, .ishr, 1, none), (14, .iconst 1, 1, none), (15, .iand, 1, none), (16, .iadd, 1, none), (17, .istore_n 1, 1, none), (18, .iinc 2 1, 3, none), (21, .goto (-17), 3, none), (24, .iload_n 1, 1, some [false, true, false]), (25, .ireturn, 1, none)]
def mi_223 : PI := (9, 3, 1, 1, 0, 0, 0, cd_223)
/-- IllLightModel.takenOf(III)I -/
def cd_224 : List (Nat × Instr × Nat × Option (List Bool)) := [(0, .iconst 0, 1, none), (1, .istore 4, 2, none), (3, .iload 4, 2, some [true, true, true, true, true, false]), (5, .aload_n 0, 1, none), (6, .iload_n 1, 1, none), (7, .iconst 3, 1, none), (8, .invokevirtual 196, 3, none), (11, .if_icmp .gt 64, 3, none), (14, .iconst 0, 1, none), (15, .istore 5, 2, none), (17, .iload 5, 2, some [true, true, true, true, true, true]), (19, .iconst 1, 1, none), (20, .aload_n 0, 1, none), (21, .iload_n 1, 1, none), (22, .iconst 3, 1, none), (23, .invokevirtual 196, 3, none), (26, .ishl, 1, none), (27, .if_icmp .ge 42, 3, none), (30, .iload 5, 2, none), (32, .invokestatic 301, 3, none), (35, .iload 4, 2, none), (37, .if_icmp .eq 6, 3, none), (40, .goto 23, 3, none), (43, .aload_n 0, 1, some [true, true, true, true, true, true]), (44, .iload 5, 2, none), (46, .putfield 199, 3, none), (49, .aload_n 0, 1, none), (50, .iload_n 1, 1, none), (51, .iload_n 2, 1, none), (52, .iload_n 3, 1, none), (53, .iconst 0, 1, none), (54, .invokevirtual 304, 3, none), (57, .ifCond .eq 6, 3, none), (60, .iload 5, 2, none), (62, .ireturn, 1, none), (63, .iinc 5 1, 3, some [true, true, true, true, true, true]), (66, .goto (-49), 3, none), (69, .iinc 4 1, 3, some [true, true, true, true, true, false]), (72, .goto (-69), 3, none), (75, .iconst (-1), 1, some [false, false, false, false, false, false]), (76, .ireturn, 1, none)]
def mi_224 : PI := (9, 6, 1, 4, 9, 8, 194, cd_224)
/-- IllLightModel.lulledOf(III)I -/
def cd_225 : List (Nat × Instr × Nat × Option (List Bool)) := [(0, .iconst 0, 1, none), (1, .istore 4, 2, none), (3, .iload 4, 2, some [true, true, true, true, true, false, false]), (5, .aload_n 0, 1, none), (6, .iload_n 1, 1, none), (7, .iconst 3, 1, none), (8, .invokevirtual 196, 3, none), (11, .if_icmp .gt 108, 3, none), (14, .iconst 0, 1, none), (15, .istore 5, 2, none), (17, .iload 5, 2, some [true, true, true, true, true, true, false]), (19, .iconst 1, 1, none), (20, .aload_n 0, 1, none), (21, .iload_n 1, 1, none), (22, .iconst 3, 1, none), (23, .invokevirtual 196, 3, none), (26, .ishl, 1, none), (27, .if_icmp .ge 86, 3, none), (30, .iload 5, 2, none), (32, .invokestatic 301, 3, none), (35, .iload 4, 2, none), (37, .if_icmp .eq 6, 3, none), (40, .goto 67, 3, none), (43, .aload_n 0, 1, some [true, true, true, true, true, true, false]), (44, .invokevirtual 215, 3, none), (47, .iconst 0, 1, none), (48, .istore 6, 2, none), (50, .iload 6, 2, some [true, true, true, true, true, true, true]), (52, .aload_n 0, 1, none), (53, .iload_n 1, 1, none), (54, .iconst 3, 1, none), (55, .invokevirtual 196, 3, none), (58, .if_icmp .ge 35, 3, none), (61, .iload 5, 2, none), (63, .iload 6, 2, none), (65, .ishr, 1, none), (66, .iconst 1, 1, none), (67, .iand, 1, none), (68, .iconst 1, 1, none), (69, .if_icmp .ne 18, 3, none), (72, .aload_n 0, 1, none), (73, .getfield 20, 3, none), (76, .bipush 12, 2, none), (78, .iload_n 1, 1, none), (79, .imul, 1, none), (80, .iconst 3, 1, none), (81, .iload 6, 2, none), (83, .imul, 1, none), (84, .iadd, 1, none), (85, .iconst 4, 1, none), (86, .iastore, 1, none), (87, .iinc 6 1, 3, some [true, true, true, true, true, true, true]), (90, .goto (-40), 3, none), (93, .aload_n 0, 1, some [true, true, true, true, true, true, false]), (94, .iload_n 1, 1, none), (95, .iload_n 2, 1, none), (96, .iload_n 3, 1, none), (97, .iconst 0, 1, none), (98, .invokevirtual 304, 3, none), (101, .ifCond .eq 6, 3, none), (104, .iload 5, 2, none), (106, .ireturn, 1, none), (107, .iinc 5 1, 3, some [true, true, true, true, true, true, false]), (110, .goto (-93), 3, none), (113, .iinc 4 1, 3, some [true, true, true, true, true, false, false]), (116, .goto (-113), 3, none), (119, .iconst (-1), 1, some [false, false, false, false, false, false, false]), (120, .ireturn, 1, none)]
def mi_225 : PI := (9, 7, 1, 4, 9, 8, 194, cd_225)
/-- IllLightModel.illOf(III)I -/
def cd_226 : List (Nat × Instr × Nat × Option (List Bool)) := [(0, .aload_n 0, 1, none), (1, .iload_n 1, 1, none), (2, .iconst 3, 1, none), (3, .invokevirtual 196, 3, none), (6, .ifCond .ne 5, 3, none), (9, .iconst (-1), 1, none), (10, .ireturn, 1, none), (11, .aload_n 0, 1, some [true, true, true, true, false]), (12, .getfield 20, 3, none), (15, .bipush 12, 2, none), (17, .iload_n 1, 1, none), (18, .imul, 1, none), (19, .iconst 0, 1, none), (20, .iastore, 1, none), (21, .iconst 0, 1, none), (22, .istore 4, 2, none), (24, .iload 4, 2, some [true, true, true, true, true]), (26, .bipush 9, 2, none), (28, .if_icmp .gt 36, 3, none), (31, .aload_n 0, 1, none), (32, .getfield 20, 3, none), (35, .bipush 12, 2, none), (37, .iload_n 1, 1, none), (38, .imul, 1, none), (39, .iconst 1, 1, none), (40, .iadd, 1, none), (41, .iload 4, 2, none), (43, .iastore, 1, none), (44, .aload_n 0, 1, none), (45, .iload_n 1, 1, none), (46, .iload_n 2, 1, none), (47, .iload_n 3, 1, none), (48, .iconst 0, 1, none), (49, .invokevirtual 304, 3, none), (52, .ifCond .eq 6, 3, none), (55, .iload 4, 2, none), (57, .ireturn, 1, none), (58, .iinc 4 1, 3, some [true, true, true, true, true]), (61, .goto (-37), 3, none), (64, .iconst (-1), 1, some [false, false, false, false, false]), (65, .ireturn, 1, none)]
def mi_226 : PI := (9, 5, 1, 4, 9, 8, 194, cd_226)
/-- IllLightModel.thrownOf(III)I -/
def cd_227 : List (Nat × Instr × Nat × Option (List Bool)) := [(0, .aload_n 0, 1, none), (1, .getfield 23, 3, none), (4, .iload_n 1, 1, none), (5, .iaload, 1, none), (6, .istore 4, 2, none), (8, .iconst 0, 1, none), (9, .istore 5, 2, none), (11, .iload 5, 2, some [true, true, true, true, true, true]), (13, .iload 4, 2, none), (15, .if_icmp .gt 34, 3, none), (18, .aload_n 0, 1, none), (19, .getfield 23, 3, none), (22, .iload_n 1, 1, none), (23, .iload 4, 2, none), (25, .iload 5, 2, none), (27, .isub, 1, none), (28, .iastore, 1, none), (29, .aload_n 0, 1, none), (30, .iload_n 1, 1, none), (31, .iload_n 2, 1, none), (32, .iload_n 3, 1, none), (33, .iconst 0, 1, none), (34, .invokevirtual 304, 3, none), (37, .ifCond .eq 6, 3, none), (40, .iload 5, 2, none), (42, .ireturn, 1, none), (43, .iinc 5 1, 3, some [true, true, true, true, true, true]), (46, .goto (-35), 3, none), (49, .iconst (-1), 1, some [false, false, false, false, false, false]), (50, .ireturn, 1, none)]
def mi_227 : PI := (9, 6, 1, 4, 9, 8, 194, cd_227)
/-- IllLightModel.leaveOf(III)I -/
def cd_228 : List (Nat × Instr × Nat × Option (List Bool)) := [(0, .iconst 0, 1, none), (1, .istore 4, 2, none), (3, .iload 4, 2, some [true, true, true, true, true]), (5, .bipush 24, 2, none), (7, .if_icmp .ge 24, 3, none), (10, .aload_n 0, 1, none), (11, .iload_n 1, 1, none), (12, .iload_n 2, 1, none), (13, .iload_n 3, 1, none), (14, .iload 4, 2, none), (16, .invokevirtual 304, 3, none), (19, .ifCond .eq 6, 3, none), (22, .iload 4, 2, none), (24, .ireturn, 1, none), (25, .iinc 4 1, 3, some [true, true, true, true, true]), (28, .goto (-25), 3, none), (31, .iconst (-1), 1, some [false, false, false, false, false]), (32, .ireturn, 1, none)]
def mi_228 : PI := (9, 5, 1, 4, 9, 8, 194, cd_228)
/-- IllLightModel.helps(IIIII)I -/
def cd_229 : List (Nat × Instr × Nat × Option (List Bool)) := [(0, .aload_n 0, 1, none), (1, .iload_n 1, 1, none), (2, .invokevirtual 190, 3, none), (5, .ifCond .eq 30, 3, none), (8, .aload_n 0, 1, none), (9, .iload_n 2, 1, none), (10, .invokevirtual 193, 3, none), (13, .ifCond .eq 22, 3, none), (16, .aload_n 0, 1, none), (17, .iload_n 3, 1, none), (18, .invokevirtual 294, 3, none), (21, .ifCond .eq 14, 3, none), (24, .iload 4, 2, none), (26, .iconst 0, 1, none), (27, .bipush 60, 2, none), (29, .invokestatic 99, 3, none), (32, .ifCond .ne 5, 3, none), (35, .iconst (-1), 1, some [false, false, false, false, false, false]), (36, .ireturn, 1, none), (37, .aload_n 0, 1, some [true, false, true, true, true, true]), (38, .invokevirtual 215, 3, none), (41, .iload 5, 2, none), (43, .tableswitch 78 0 4 #[33, 42, 51, 60, 69], 33, none), (76, .aload_n 0, 1, some [true, false, true, true, true, false]), (77, .iload_n 2, 1, none), (78, .iload_n 3, 1, none), (79, .iload 4, 2, none), (81, .invokevirtual 307, 3, none), (84, .ireturn, 1, none), (85, .aload_n 0, 1, some [true, false, true, true, true, false]), (86, .iload_n 2, 1, none), (87, .iload_n 3, 1, none), (88, .iload 4, 2, none), (90, .invokevirtual 310, 3, none), (93, .ireturn, 1, none), (94, .aload_n 0, 1, some [true, false, true, true, true, false]), (95, .iload_n 2, 1, none), (96, .iload_n 3, 1, none), (97, .iload 4, 2, none), (99, .invokevirtual 313, 3, none), (102, .ireturn, 1, none), (103, .aload_n 0, 1, some [true, false, true, true, true, false]), (104, .iload_n 2, 1, none), (105, .iload_n 3, 1, none), (106, .iload 4, 2, none), (108, .invokevirtual 316, 3, none), (111, .ireturn, 1, none), (112, .aload_n 0, 1, some [true, false, true, true, true, false]), (113, .iload_n 2, 1, none), (114, .iload_n 3, 1, none), (115, .iload 4, 2, none), (117, .invokevirtual 319, 3, none), (120, .ireturn, 1, none), (121, .iconst (-1), 1, some [false, false, false, false, false, false]), (122, .ireturn, 1, none)]
def mi_229 : PI := (9, 6, 1, 6, 9, 9, 220, cd_229)
/-- IllLightModel.openOf(I)I -/
def cd_230 : List (Nat × Instr × Nat × Option (List Bool)) := [(0, .iconst 0, 1, none), (1, .istore_n 2, 1, none), (2, .iconst 0, 1, none), (3, .istore_n 3, 1, none), (4, .iload_n 3, 1, some [true, true, true, true]), (5, .aload_n 0, 1, none), (6, .getfield 181, 3, none), (9, .if_icmp .ge 32, 3, none), (12, .iload_n 2, 1, none), (13, .aload_n 0, 1, none), (14, .aload_n 0, 1, none), (15, .getfield 181, 3, none), (18, .iload_n 1, 1, none), (19, .imul, 1, none), (20, .iload_n 3, 1, none), (21, .iadd, 1, none), (22, .invokevirtual 266, 3, none), (25, .ifCond .eq 7, 3, none), (28, .iconst 0, 1, none), (29, .goto 4, 3, none), (32, .iconst 1, 1, some [true, true, false, true]), (33, .iadd, 1, some [true, true, false, true]), (34, .istore_n 2, 1, none), (35, .iinc 3 1, 3, none), (38, .goto (-34), 3, none), (41, .iload_n 2, 1, some [false, false, true, false]), (42, .ireturn, 1, none)]
def mi_230 : PI := (9, 4, 1, 2, 9, 1, 21, cd_230)
/-- IllLightModel.wins(III)Z -/
def cd_231 : List (Nat × Instr × Nat × Option (List Bool)) := [(0, .iload_n 1, 1, none), (1, .iload_n 2, 1, none), (2, .invokestatic 242, 3, none), (5, .iload_n 3, 1, none), (6, .if_icmp .le 7, 3, none), (9, .iconst 1, 1, none), (10, .goto 4, 3, none), (13, .iconst 0, 1, some [false, false, false, false]), (14, .ireturn, 1, some [false, false, false, false])]
def mi_231 : PI := (9, 4, 2, 4, 9, 1, 21, cd_231)
/-- IllLightModel.isRest(III)Z -/
def cd_232 : List (Nat × Instr × Nat × Option (List Bool)) := [(0, .aload_n 0, 1, none), (1, .iload_n 1, 1, none), (2, .iload_n 2, 1, none), (3, .iload_n 3, 1, none), (4, .invokevirtual 322, 3, none), (7, .ifCond .eq 11, 3, none), (10, .aload_n 0, 1, none), (11, .iload_n 1, 1, none), (12, .invokevirtual 325, 3, none), (15, .goto 4, 3, none), (18, .iconst 0, 1, some [true, true, true, true, false, false, false, false]), (19, .istore 4, 2, some [true, true, true, true, false, false, false, false]), (21, .aload_n 0, 1, none), (22, .iload_n 1, 1, none), (23, .iload_n 2, 1, none), (24, .iload_n 3, 1, none), (25, .invokevirtual 322, 3, none), (28, .ifCond .eq 7, 3, none), (31, .iconst 0, 1, none), (32, .goto 8, 3, none), (35, .aload_n 0, 1, some [true, true, true, true, true, false, false, false]), (36, .iload_n 1, 1, none), (37, .invokevirtual 325, 3, none), (40, .istore 5, 2, some [true, true, true, true, true, false, false, false]), (42, .iconst 1, 1, none), (43, .istore 6, 2, none), (45, .iconst 0, 1, none), (46, .istore 7, 2, none), (48, .iload 7, 2, some [true, true, true, true, true, true, true, true]), (50, .aload_n 0, 1, none), (51, .getfield 184, 3, none), (54, .if_icmp .ge 84, 3, none), (57, .iload 6, 2, none), (59, .ifCond .eq 33, 3, none), (62, .aload_n 0, 1, none), (63, .iload 7, 2, none), (65, .iload_n 2, 1, none), (66, .iload_n 3, 1, none), (67, .invokevirtual 322, 3, none), (70, .ifCond .eq 12, 3, none), (73, .aload_n 0, 1, none), (74, .iload 7, 2, none), (76, .invokevirtual 325, 3, none), (79, .goto 4, 3, none), (82, .iconst 0, 1, some [true, true, true, true, true, true, false, true]), (83, .iload 4, 2, some [true, true, true, true, true, true, false, true]), (85, .if_icmp .gt 7, 3, none), (88, .iconst 1, 1, none), (89, .goto 4, 3, none), (92, .iconst 0, 1, some [true, true, true, true, true, true, false, true]), (93, .istore 6, 2, some [true, true, true, true, true, true, false, true]), (95, .iload 6, 2, none), (97, .ifCond .eq 32, 3, none), (100, .aload_n 0, 1, none), (101, .iload_n 1, 1, none), (102, .iload 7, 2, none), (104, .iload_n 3, 1, none), (105, .invokevirtual 322, 3, none), (108, .ifCond .eq 7, 3, none), (111, .iconst 0, 1, none), (112, .goto 8, 3, none), (115, .aload_n 0, 1, some [true, true, true, true, true, true, false, true]), (116, .iload_n 1, 1, none), (117, .invokevirtual 325, 3, none), (120, .iload 5, 2, some [true, true, true, true, true, true, false, true]), (122, .if_icmp .gt 7, 3, none), (125, .iconst 1, 1, none), (126, .goto 4, 3, none), (129, .iconst 0, 1, some [true, true, true, true, true, true, false, true]), (130, .istore 6, 2, some [true, true, true, true, true, true, false, true]), (132, .iinc 7 1, 3, none), (135, .goto (-87), 3, none), (138, .iload 6, 2, some [false, false, false, false, false, false, true, false]), (140, .ireturn, 1, none)]
def mi_232 : PI := (9, 8, 2, 4, 9, 2, 44, cd_232)
/-- IllLightModel.safestOf(I)I -/
def cd_233 : List (Nat × Instr × Nat × Option (List Bool)) := [(0, .iconst 0, 1, none), (1, .istore_n 2, 1, none), (2, .iconst (-1), 1, none), (3, .istore_n 3, 1, none), (4, .iconst 0, 1, none), (5, .istore 4, 2, none), (7, .iload 4, 2, some [true, true, true, true, true, false, false]), (9, .aload_n 0, 1, none), (10, .getfield 184, 3, none), (13, .if_icmp .ge 70, 3, none), (16, .aload_n 0, 1, none), (17, .iload 4, 2, none), (19, .invokevirtual 325, 3, none), (22, .istore 5, 2, none), (24, .iconst 0, 1, none), (25, .istore 6, 2, none), (27, .iload 6, 2, some [true, true, true, true, true, true, true]), (29, .aload_n 0, 1, none), (30, .getfield 184, 3, none), (33, .if_icmp .ge 29, 3, none), (36, .aload_n 0, 1, none), (37, .iload 4, 2, none), (39, .iload 6, 2, none), (41, .iload_n 1, 1, none), (42, .invokevirtual 322, 3, none), (45, .ifCond .eq 8, 3, none), (48, .iload 5, 2, none), (50, .goto 4, 3, none), (53, .iconst 0, 1, some [true, true, true, true, true, false, true]), (54, .istore 5, 2, some [true, true, true, true, true, false, true]), (56, .iinc 6 1, 3, none), (59, .goto (-32), 3, none), (62, .iload 5, 2, some [true, true, true, true, true, true, false]), (64, .iload_n 3, 1, none), (65, .if_icmp .gt 6, 3, none), (68, .goto 9, 3, none), (71, .iload 4, 2, some [true, true, false, false, true, true, false]), (73, .istore_n 2, 1, none), (74, .iload 5, 2, none), (76, .istore_n 3, 1, none), (77, .iinc 4 1, 3, some [true, true, true, true, true, false, false]), (80, .goto (-73), 3, none), (83, .iload_n 2, 1, some [false, false, true, false, false, false, false]), (84, .ireturn, 1, none)]
def mi_233 : PI := (9, 7, 1, 2, 9, 2, 44, cd_233)
/-- IllLightModel.rest(III)I -/
def cd_234 : List (Nat × Instr × Nat × Option (List Bool)) := [(0, .aload_n 0, 1, none), (1, .iload_n 1, 1, none), (2, .invokevirtual 190, 3, none), (5, .ifCond .eq 19, 3, none), (8, .iload_n 2, 1, none), (9, .iconst 0, 1, none), (10, .bipush 7, 2, none), (12, .invokestatic 99, 3, none), (15, .ifCond .eq 9, 3, none), (18, .iload_n 3, 1, none), (19, .bipush (-2), 2, none), (21, .if_icmp .ge 5, 3, none), (24, .iconst (-1), 1, some [false, false, false, false, false, false]), (25, .ireturn, 1, none), (26, .iload_n 3, 1, some [true, false, true, true, false, false]), (27, .bipush (-2), 2, none), (29, .if_icmp .ne 9, 3, none), (32, .aload_n 0, 1, none), (33, .iload_n 2, 1, none), (34, .invokevirtual 328, 3, none), (37, .ireturn, 1, none), (38, .iconst 0, 1, some [true, false, true, true, false, false]), (39, .istore 4, 2, none), (41, .iconst 0, 1, none), (42, .istore 5, 2, none), (44, .iload 5, 2, some [true, false, true, true, true, true]), (46, .bipush 64, 2, none), (48, .if_icmp .ge 66, 3, none), (51, .iload 5, 2, none), (53, .bipush 8, 2, none), (55, .idiv, 1, none), (56, .aload_n 0, 1, none), (57, .getfield 184, 3, none), (60, .if_icmp .ge 48, 3, none), (63, .iload 5, 2, none), (65, .bipush 8, 2, none), (67, .irem, 1, none), (68, .aload_n 0, 1, none), (69, .getfield 184, 3, none), (72, .if_icmp .ge 36, 3, none), (75, .aload_n 0, 1, none), (76, .iload 5, 2, none), (78, .bipush 8, 2, none), (80, .idiv, 1, none), (81, .iload 5, 2, none), (83, .bipush 8, 2, none), (85, .irem, 1, none), (86, .iload_n 2, 1, none), (87, .invokevirtual 331, 3, none), (90, .ifCond .ne 6, 3, none), (93, .goto 15, 3, none), (96, .iload 4, 2, some [true, false, true, true, true, true]), (98, .iload_n 3, 1, none), (99, .if_icmp .ne 6, 3, none), (102, .iload 5, 2, none), (104, .ireturn, 1, none), (105, .iinc 4 1, 3, some [true, false, true, true, true, true]), (108, .iinc 5 1, 3, some [true, false, true, true, true, true]), (111, .goto (-67), 3, none), (114, .iload_n 3, 1, some [false, false, false, true, true, false]), (115, .iconst (-1), 1, none), (116, .if_icmp .ne 8, 3, none), (119, .iload 4, 2, none), (121, .goto 4, 3, none), (124, .iconst (-1), 1, some [false, false, false, false, false, false]), (125, .ireturn, 1, some [false, false, false, false, false, false])]
def mi_234 : PI := (9, 6, 1, 4, 9, 3, 71, cd_234)
/-- IllLightModel.common(JJ)J -/
def cd_235 : List (Nat × Instr × Nat × Option (List Bool)) := [(0, .lload_n 0, 1, none), (1, .lstore 4, 2, none), (3, .lload_n 2, 1, none), (4, .lstore 6, 2, none), (6, .lload 6, 2, some [false, false, false, false, true, false, true, false, false, false]), (8, .lconst 0, 1, none), (9, .lcmp, 1, none), (10, .ifCond .eq 21, 3, none), (13, .lload 4, 2, none), (15, .lload 6, 2, none), (17, .lrem, 1, none), (18, .lstore 8, 2, none), (20, .lload 6, 2, none), (22, .lstore 4, 2, none), (24, .lload 8, 2, none), (26, .lstore 6, 2, none), (28, .goto (-22), 3, none), (31, .lload 4, 2, some [false, false, false, false, true, false, false, false, false, false]), (33, .lreturn, 1, none)]
def mi_235 : PI := (9, 10, 3, 2, 0, 0, 0, cd_235)
/-- IllLightModel.power(JI)J -/
def cd_236 : List (Nat × Instr × Nat × Option (List Bool)) := [(0, .lconst 1, 1, none), (1, .lstore_n 3, 1, none), (2, .iconst 0, 1, none), (3, .istore 5, 2, none), (5, .iload 5, 2, some [true, false, true, true, false, true]), (7, .iload_n 2, 1, none), (8, .if_icmp .ge 13, 3, none), (11, .lload_n 3, 1, none), (12, .lload_n 0, 1, none), (13, .lmul, 1, none), (14, .lstore_n 3, 1, none), (15, .iinc 5 1, 3, none), (18, .goto (-13), 3, none), (21, .lload_n 3, 1, some [false, false, false, true, false, false]), (22, .lreturn, 1, none)]
def mi_236 : PI := (9, 6, 3, 2, 0, 0, 0, cd_236)
/-- IllLightModel.premium(IIIZ)J -/
def cd_237 : List (Nat × Instr × Nat × Option (List Bool)) := [(0, .iload_n 1, 1, none), (1, .iconst 1, 1, none), (2, .bipush 9, 2, none), (4, .invokestatic 99, 3, none), (7, .ifCond .eq 23, 3, none), (10, .iload_n 2, 1, none), (11, .iconst 0, 1, none), (12, .bipush 10, 2, none), (14, .invokestatic 99, 3, none), (17, .ifCond .eq 13, 3, none), (20, .iload_n 3, 1, none), (21, .iconst 0, 1, none), (22, .bipush 99, 2, none), (24, .invokestatic 99, 3, none), (27, .ifCond .ne 7, 3, none), (30, .ldc2_w 334, 3, some [false, false, false, false, false, false, false, false, false]), (33, .lreturn, 1, none), (34, .ldc2_w 336, 3, some [false, true, true, true, true, false, false, false, false]), (37, .iload_n 1, 1, none), (38, .invokestatic 338, 3, none), (41, .lstore 5, 2, none), (43, .iload_n 3, 1, none), (44, .i2l, 1, none), (45, .lload 5, 2, none), (47, .bipush 10, 2, none), (49, .iload_n 2, 1, none), (50, .isub, 1, none), (51, .i2l, 1, none), (52, .iload_n 1, 1, none), (53, .invokestatic 338, 3, none), (56, .lsub, 1, none), (57, .lmul, 1, none), (58, .lstore 7, 2, none), (60, .iload 4, 2, none), (62, .ifCond .eq 8, 3, none), (65, .lload 5, 2, none), (67, .goto 5, 3, none), (70, .lload 7, 2, some [false, false, false, false, false, true, false, true, false]), (72, .lload 7, 2, some [false, false, false, false, false, true, false, true, false]), (74, .lload 5, 2, none), (76, .invokestatic 342, 3, none), (79, .ldiv, 1, none), (80, .lreturn, 1, none)]
def mi_237 : PI := (9, 9, 3, 5, 9, 1, 29, cd_237)
/-- IllLightModel.isLog(I)Z -/
def cd_238 : List (Nat × Instr × Nat × Option (List Bool)) := [(0, .aload_n 0, 1, none), (1, .iconst 2, 1, none), (2, .iload_n 1, 1, none), (3, .invokevirtual 153, 3, none), (6, .ifCond .ne 5, 3, none), (9, .iconst 0, 1, none), (10, .ireturn, 1, none), (11, .aload_n 0, 1, some [true, true]), (12, .iconst 2, 1, none), (13, .iload_n 1, 1, none), (14, .invokestatic 169, 3, none), (17, .putfield 346, 3, none), (20, .iconst 1, 1, none), (21, .ireturn, 1, none)]
def mi_238 : PI := (9, 2, 2, 2, 9, 2, 44, cd_238)
/-- IllLightModel.log(II)I -/
def cd_239 : List (Nat × Instr × Nat × Option (List Bool)) := [(0, .aload_n 0, 1, none), (1, .iload_n 1, 1, none), (2, .invokevirtual 349, 3, none), (5, .ifCond .ne 5, 3, none), (8, .iconst (-1), 1, none), (9, .ireturn, 1, none), (10, .iload_n 2, 1, some [true, false, true, false]), (11, .iconst 0, 1, none), (12, .iconst 3, 1, none), (13, .invokestatic 99, 3, none), (16, .ifCond .eq 15, 3, none), (19, .aload_n 0, 1, none), (20, .getfield 7, 3, none), (23, .aload_n 0, 1, none), (24, .getfield 346, 3, none), (27, .iload_n 2, 1, none), (28, .iadd, 1, none), (29, .iaload, 1, none), (30, .ireturn, 1, none), (31, .iload_n 2, 1, some [true, false, true, false]), (32, .bipush 10, 2, none), (34, .irem, 1, none), (35, .istore_n 3, 1, none), (36, .iload_n 2, 1, none), (37, .bipush 10, 2, none), (39, .bipush 19, 2, none), (41, .invokestatic 99, 3, none), (44, .ifCond .eq 34, 3, none), (47, .iload_n 3, 1, none), (48, .aload_n 0, 1, none), (49, .getfield 7, 3, none), (52, .aload_n 0, 1, none), (53, .getfield 346, 3, none), (56, .iaload, 1, none), (57, .if_icmp .ge 19, 3, none), (60, .aload_n 0, 1, none), (61, .getfield 7, 3, none), (64, .aload_n 0, 1, none), (65, .getfield 346, 3, none), (68, .iconst 4, 1, none), (69, .iadd, 1, none), (70, .iload_n 3, 1, none), (71, .iadd, 1, none), (72, .iaload, 1, none), (73, .goto 4, 3, none), (76, .iconst (-1), 1, some [false, false, false, false]), (77, .ireturn, 1, some [false, false, false, false]), (78, .iload_n 2, 1, some [true, false, true, true]), (79, .bipush 20, 2, none), (81, .bipush 39, 2, none), (83, .invokestatic 99, 3, none), (86, .ifCond .eq 44, 3, none), (89, .iload_n 3, 1, none), (90, .aload_n 0, 1, none), (91, .getfield 7, 3, none), (94, .aload_n 0, 1, none), (95, .getfield 346, 3, none), (98, .iconst 3, 1, none), (99, .iadd, 1, none), (100, .iaload, 1, none), (101, .if_icmp .ge 29, 3, none), (104, .aload_n 0, 1, none), (105, .getfield 7, 3, none), (108, .aload_n 0, 1, none), (109, .getfield 346, 3, none), (112, .bipush 10, 2, none), (114, .iadd, 1, none), (115, .iconst 2, 1, none), (116, .iload_n 3, 1, none), (117, .imul, 1, none), (118, .iadd, 1, none), (119, .iload_n 2, 1, none), (120, .bipush 10, 2, none), (122, .idiv, 1, none), (123, .iadd, 1, none), (124, .iconst 2, 1, none), (125, .isub, 1, none), (126, .iaload, 1, none), (127, .goto 4, 3, none), (130, .iconst (-1), 1, some [false, false, false, false]), (131, .ireturn, 1, some [false, false, false, false])]
def mi_239 : PI := (9, 4, 1, 3, 9, 3, 65, cd_239)
/-- IllLightModel.isLitBy(II)Z -/
def cd_240 : List (Nat × Instr × Nat × Option (List Bool)) := [(0, .iload_n 1, 1, none), (1, .invokestatic 301, 3, none), (4, .aload_n 0, 1, none), (5, .getfield 7, 3, none), (8, .aload_n 0, 1, none), (9, .getfield 346, 3, none), (12, .iconst 1, 1, none), (13, .iadd, 1, none), (14, .iaload, 1, none), (15, .if_icmp .ge 5, 3, none), (18, .iconst 0, 1, none), (19, .ireturn, 1, none), (20, .iload_n 1, 1, some [true, true, true]), (21, .invokestatic 301, 3, none), (24, .aload_n 0, 1, none), (25, .getfield 7, 3, none), (28, .aload_n 0, 1, none), (29, .getfield 346, 3, none), (32, .iaload, 1, none), (33, .if_icmp .eq 9, 3, none), (36, .iload_n 2, 1, none), (37, .iconst 2, 1, none), (38, .irem, 1, none), (39, .ifCond .ne 7, 3, none), (42, .iconst 1, 1, some [false, false, false]), (43, .goto 4, 3, none), (46, .iconst 0, 1, some [false, false, false]), (47, .ireturn, 1, some [false, false, false])]
def mi_240 : PI := (9, 3, 2, 3, 9, 1, 22, cd_240)
/-- IllLightModel.wrongBy(I)I -/
def cd_241 : List (Nat × Instr × Nat × Option (List Bool)) := [(0, .iconst 0, 1, none), (1, .istore_n 2, 1, none), (2, .iconst 0, 1, none), (3, .istore_n 3, 1, none), (4, .iload_n 3, 1, some [true, true, true, true]), (5, .aload_n 0, 1, none), (6, .getfield 7, 3, none), (9, .aload_n 0, 1, none), (10, .getfield 346, 3, none), (13, .iconst 3, 1, none), (14, .iadd, 1, none), (15, .iaload, 1, none), (16, .if_icmp .ge 66, 3, none), (19, .iload_n 2, 1, none), (20, .aload_n 0, 1, none), (21, .iload_n 1, 1, none), (22, .aload_n 0, 1, none), (23, .getfield 7, 3, none), (26, .aload_n 0, 1, none), (27, .getfield 346, 3, none), (30, .bipush 11, 2, none), (32, .iadd, 1, none), (33, .iconst 2, 1, none), (34, .iload_n 3, 1, none), (35, .imul, 1, none), (36, .iadd, 1, none), (37, .iaload, 1, none), (38, .invokevirtual 352, 3, none), (41, .aload_n 0, 1, none), (42, .getfield 7, 3, none), (45, .aload_n 0, 1, none), (46, .getfield 346, 3, none), (49, .bipush 10, 2, none), (51, .iadd, 1, none), (52, .iconst 2, 1, none), (53, .iload_n 3, 1, none), (54, .imul, 1, none), (55, .iadd, 1, none), (56, .iaload, 1, none), (57, .iconst 1, 1, none), (58, .if_icmp .ne 7, 3, none), (61, .iconst 1, 1, none), (62, .goto 4, 3, none), (65, .iconst 0, 1, some [true, true, false, true]), (66, .if_icmp .ne 7, 3, some [true, true, false, true]), (69, .iconst 0, 1, none), (70, .goto 4, 3, none), (73, .iconst 1, 1, some [true, true, false, true]), (74, .iadd, 1, some [true, true, false, true]), (75, .istore_n 2, 1, none), (76, .iinc 3 1, 3, none), (79, .goto (-75), 3, none), (82, .iload_n 2, 1, some [false, false, true, false]), (83, .ireturn, 1, none)]
def mi_241 : PI := (9, 4, 1, 2, 9, 2, 44, cd_241)
/-- IllLightModel.countOf(I)I -/
def cd_242 : List (Nat × Instr × Nat × Option (List Bool)) := [(0, .iconst 0, 1, none), (1, .istore_n 2, 1, none), (2, .iconst 0, 1, none), (3, .istore_n 3, 1, none), (4, .iload_n 3, 1, some [true, true, true, true]), (5, .iconst 1, 1, none), (6, .aload_n 0, 1, none), (7, .getfield 7, 3, none), (10, .aload_n 0, 1, none), (11, .getfield 346, 3, none), (14, .iaload, 1, none), (15, .ishl, 1, none), (16, .if_icmp .ge 39, 3, none), (19, .iload_n 2, 1, none), (20, .aload_n 0, 1, none), (21, .iload_n 3, 1, none), (22, .invokevirtual 355, 3, none), (25, .ifCond .ne 21, 3, none), (28, .iload_n 1, 1, none), (29, .iconst (-1), 1, none), (30, .if_icmp .eq 12, 3, none), (33, .aload_n 0, 1, none), (34, .iload_n 3, 1, none), (35, .iload_n 1, 1, none), (36, .invokevirtual 352, 3, none), (39, .ifCond .eq 7, 3, none), (42, .iconst 1, 1, some [true, true, false, true]), (43, .goto 4, 3, none), (46, .iconst 0, 1, some [true, true, false, true]), (47, .iadd, 1, some [true, true, false, true]), (48, .istore_n 2, 1, none), (49, .iinc 3 1, 3, none), (52, .goto (-48), 3, none), (55, .iload_n 2, 1, some [false, false, true, false]), (56, .ireturn, 1, none)]
def mi_242 : PI := (9, 4, 1, 2, 9, 3, 67, cd_242)
/-- IllLightModel.askOf()I -/
def cd_243 : List (Nat × Instr × Nat × Option (List Bool)) := [(0, .iconst 0, 1, none), (1, .istore_n 1, 1, none), (2, .sipush 999, 3, none), (5, .istore_n 2, 1, none), (6, .iconst 0, 1, none), (7, .istore_n 3, 1, none), (8, .iload_n 3, 1, some [true, true, true, true, false, false]), (9, .bipush 24, 2, none), (11, .if_icmp .ge 56, 3, none), (14, .aload_n 0, 1, none), (15, .iload_n 3, 1, none), (16, .invokevirtual 358, 3, none), (19, .istore 4, 2, none), (21, .iload 4, 2, none), (23, .aload_n 0, 1, none), (24, .getfield 361, 3, none), (27, .iload 4, 2, none), (29, .isub, 1, none), (30, .if_icmp .le 8, 3, none), (33, .iload 4, 2, none), (35, .goto 10, 3, none), (38, .aload_n 0, 1, some [true, true, true, true, true, false]), (39, .getfield 361, 3, none), (42, .iload 4, 2, none), (44, .isub, 1, none), (45, .istore 5, 2, some [true, true, true, true, false, false]), (47, .iload 5, 2, none), (49, .iload_n 2, 1, none), (50, .if_icmp .lt 6, 3, none), (53, .goto 8, 3, none), (56, .iload_n 3, 1, some [true, false, false, true, false, true]), (57, .istore_n 1, 1, none), (58, .iload 5, 2, none), (60, .istore_n 2, 1, none), (61, .iinc 3 1, 3, some [true, true, true, true, false, false]), (64, .goto (-56), 3, none), (67, .iload_n 1, 1, some [false, true, false, false, false, false]), (68, .ireturn, 1, none)]
def mi_243 : PI := (9, 6, 1, 1, 9, 4, 90, cd_243)
/-- IllLightModel.fits(II)I -/
def cd_244 : List (Nat × Instr × Nat × Option (List Bool)) := [(0, .aload_n 0, 1, none), (1, .iload_n 1, 1, none), (2, .invokevirtual 349, 3, none), (5, .ifCond .ne 6, 3, none), (8, .bipush (-2), 2, none), (10, .ireturn, 1, none), (11, .aload_n 0, 1, some [true, false, true, false, false]), (12, .aload_n 0, 1, none), (13, .iconst (-1), 1, none), (14, .invokevirtual 358, 3, none), (17, .putfield 361, 3, none), (20, .iload_n 2, 1, none), (21, .ifCond .ne 8, 3, none), (24, .aload_n 0, 1, none), (25, .getfield 361, 3, none), (28, .ireturn, 1, none), (29, .iload_n 2, 1, some [true, false, true, false, false]), (30, .iconst 1, 1, none), (31, .iconst 2, 1, none), (32, .invokestatic 99, 3, none), (35, .ifCond .eq 83, 3, none), (38, .aload_n 0, 1, none), (39, .getfield 361, 3, none), (42, .ifCond .ne 5, 3, none), (45, .iconst (-1), 1, none), (46, .ireturn, 1, none), (47, .iconst 1, 1, some [true, false, true, false, false]), (48, .aload_n 0, 1, none), (49, .getfield 7, 3, none), (52, .aload_n 0, 1, none), (53, .getfield 346, 3, none), (56, .iaload, 1, none), (57, .ishl, 1, none), (58, .iconst 1, 1, none), (59, .isub, 1, none), (60, .istore_n 3, 1, none), (61, .iconst 0, 1, none), (62, .istore 4, 2, none), (64, .iload 4, 2, some [true, false, true, true, true]), (66, .iconst 1, 1, none), (67, .aload_n 0, 1, none), (68, .getfield 7, 3, none), (71, .aload_n 0, 1, none), (72, .getfield 346, 3, none), (75, .iaload, 1, none), (76, .ishl, 1, none), (77, .if_icmp .ge 27, 3, none), (80, .iload_n 3, 1, none), (81, .aload_n 0, 1, none), (82, .iload 4, 2, none), (84, .invokevirtual 355, 3, none), (87, .ifCond .ne 8, 3, none), (90, .iload 4, 2, none), (92, .goto 4, 3, none), (95, .iload_n 3, 1, some [true, false, true, true, true]), (96, .iand, 1, some [true, false, true, false, true]), (97, .istore_n 3, 1, none), (98, .iinc 4 1, 3, none), (101, .goto (-37), 3, none), (104, .iload_n 2, 1, some [true, false, true, true, false]), (105, .iconst 1, 1, none), (106, .if_icmp .ne 7, 3, none), (109, .iload_n 3, 1, none), (110, .goto 7, 3, none), (113, .aload_n 0, 1, some [true, false, false, false, false]), (114, .invokevirtual 364, 3, none), (117, .ireturn, 1, some [false, false, false, false, false]), (118, .iconst 0, 1, some [true, false, true, false, false]), (119, .istore_n 3, 1, none), (120, .iconst 0, 1, none), (121, .istore 4, 2, none), (123, .iload 4, 2, some [true, false, true, true, true]), (125, .iconst 1, 1, none), (126, .aload_n 0, 1, none), (127, .getfield 7, 3, none), (130, .aload_n 0, 1, none), (131, .getfield 346, 3, none), (134, .iaload, 1, none), (135, .ishl, 1, none), (136, .if_icmp .ge 35, 3, none), (139, .aload_n 0, 1, none), (140, .iload 4, 2, none), (142, .invokevirtual 355, 3, none), (145, .ifCond .le 6, 3, none), (148, .goto 17, 3, none), (151, .iload_n 2, 1, some [true, false, true, true, true]), (152, .bipush 10, 2, none), (154, .iload_n 3, 1, none), (155, .iadd, 1, none), (156, .if_icmp .ne 6, 3, none), (159, .iload 4, 2, none), (161, .ireturn, 1, none), (162, .iinc 3 1, 3, some [true, false, true, true, true]), (165, .iinc 4 1, 3, some [true, false, true, true, true]), (168, .goto (-45), 3, none), (171, .bipush (-2), 2, some [false, false, false, false, false]), (173, .ireturn, 1, none)]
def mi_244 : PI := (9, 5, 1, 3, 9, 5, 115, cd_244)
/-- IllLightModel.weightOf(I)J -/
def cd_245 : List (Nat × Instr × Nat × Option (List Bool)) := [(0, .lconst 1, 1, none), (1, .lstore_n 2, 1, none), (2, .iconst 0, 1, none), (3, .istore 4, 2, none), (5, .iload 4, 2, some [true, true, true, false, true]), (7, .aload_n 0, 1, none), (8, .getfield 7, 3, none), (11, .aload_n 0, 1, none), (12, .getfield 346, 3, none), (15, .iaload, 1, none), (16, .if_icmp .ge 58, 3, none), (19, .lload_n 2, 1, none), (20, .iload_n 1, 1, none), (21, .iload 4, 2, none), (23, .ishr, 1, none), (24, .iconst 1, 1, none), (25, .iand, 1, none), (26, .iconst 1, 1, none), (27, .if_icmp .ne 21, 3, none), (30, .aload_n 0, 1, none), (31, .getfield 7, 3, none), (34, .aload_n 0, 1, none), (35, .getfield 346, 3, none), (38, .iconst 4, 1, none), (39, .iadd, 1, none), (40, .iload 4, 2, none), (42, .iadd, 1, none), (43, .iaload, 1, none), (44, .i2l, 1, none), (45, .goto 21, 3, none), (48, .bipush 10, 2, some [true, true, false, false, true]), (50, .aload_n 0, 1, none), (51, .getfield 7, 3, none), (54, .aload_n 0, 1, none), (55, .getfield 346, 3, none), (58, .iconst 4, 1, none), (59, .iadd, 1, none), (60, .iload 4, 2, none), (62, .iadd, 1, none), (63, .iaload, 1, none), (64, .isub, 1, none), (65, .i2l, 1, none), (66, .lmul, 1, some [true, true, false, false, true]), (67, .lstore_n 2, 1, none), (68, .iinc 4 1, 3, none), (71, .goto (-66), 3, none), (74, .aload_n 0, 1, some [true, true, true, false, false]), (75, .iload_n 1, 1, none), (76, .invokevirtual 355, 3, none), (79, .istore 4, 2, none), (81, .lload_n 2, 1, none), (82, .aload_n 0, 1, none), (83, .getfield 7, 3, none), (86, .aload_n 0, 1, none), (87, .getfield 346, 3, none), (90, .iconst 2, 1, none), (91, .iadd, 1, none), (92, .iaload, 1, none), (93, .i2l, 1, none), (94, .iload 4, 2, none), (96, .invokestatic 338, 3, none), (99, .lmul, 1, none), (100, .bipush 10, 2, none), (102, .aload_n 0, 1, none), (103, .getfield 7, 3, none), (106, .aload_n 0, 1, none), (107, .getfield 346, 3, none), (110, .iconst 2, 1, none), (111, .iadd, 1, none), (112, .iaload, 1, none), (113, .isub, 1, none), (114, .i2l, 1, none), (115, .aload_n 0, 1, none), (116, .getfield 7, 3, none), (119, .aload_n 0, 1, none), (120, .getfield 346, 3, none), (123, .iconst 3, 1, none), (124, .iadd, 1, none), (125, .iaload, 1, none), (126, .iload 4, 2, none), (128, .isub, 1, none), (129, .invokestatic 338, 3, none), (132, .lmul, 1, none), (133, .lreturn, 1, none)]
def mi_245 : PI := (9, 5, 3, 2, 9, 3, 67, cd_245)
/-- IllLightModel.belief(IIZ)J -/
def cd_246 : List (Nat × Instr × Nat × Option (List Bool)) := [(0, .aload_n 0, 1, none), (1, .iload_n 1, 1, none), (2, .invokevirtual 349, 3, none), (5, .ifCond .eq 22, 3, none), (8, .iload_n 2, 1, none), (9, .iconst 0, 1, none), (10, .aload_n 0, 1, none), (11, .getfield 7, 3, none), (14, .aload_n 0, 1, none), (15, .getfield 346, 3, none), (18, .iaload, 1, none), (19, .iconst 1, 1, none), (20, .isub, 1, none), (21, .invokestatic 99, 3, none), (24, .ifCond .ne 7, 3, none), (27, .ldc2_w 334, 3, some [false, false, false, false, false, false, false, false, false, false, false]), (30, .lreturn, 1, none), (31, .lconst 0, 1, some [true, false, true, true, false, false, false, false, false, false, false]), (32, .lstore 4, 2, none), (34, .lconst 0, 1, none), (35, .lstore 6, 2, none), (37, .iconst 0, 1, none), (38, .istore 8, 2, none), (40, .iload 8, 2, some [true, false, true, true, true, false, true, false, true, false, false]), (42, .iconst 1, 1, none), (43, .aload_n 0, 1, none), (44, .getfield 7, 3, none), (47, .aload_n 0, 1, none), (48, .getfield 346, 3, none), (51, .iaload, 1, none), (52, .ishl, 1, none), (53, .if_icmp .ge 45, 3, none), (56, .aload_n 0, 1, none), (57, .iload 8, 2, none), (59, .invokevirtual 367, 3, none), (62, .lstore 9, 2, none), (64, .lload 6, 2, none), (66, .lload 9, 2, none), (68, .ladd, 1, none), (69, .lstore 6, 2, none), (71, .lload 4, 2, none), (73, .iload 8, 2, none), (75, .iload_n 2, 1, none), (76, .ishr, 1, none), (77, .iconst 1, 1, none), (78, .iand, 1, none), (79, .iconst 1, 1, none), (80, .if_icmp .ne 8, 3, none), (83, .lload 9, 2, none), (85, .goto 4, 3, none), (88, .lconst 0, 1, some [true, false, true, true, false, false, true, false, true, false, false]), (89, .ladd, 1, some [true, false, true, true, false, false, true, false, true, false, false]), (90, .lstore 4, 2, none), (92, .iinc 8 1, 3, none), (95, .goto (-55), 3, none), (98, .lload 6, 2, some [false, false, false, true, true, false, true, false, false, false, false]), (100, .lconst 0, 1, none), (101, .lcmp, 1, none), (102, .ifCond .ne 13, 3, none), (105, .iload_n 3, 1, none), (106, .ifCond .eq 7, 3, none), (109, .lconst 1, 1, none), (110, .goto 4, 3, none), (113, .lconst 0, 1, some [false, false, false, false, false, false, false, false, false, false, false]), (114, .lreturn, 1, some [false, false, false, false, false, false, false, false, false, false, false]), (115, .iload_n 3, 1, some [false, false, false, true, true, false, true, false, false, false, false]), (116, .ifCond .eq 8, 3, none), (119, .lload 6, 2, none), (121, .goto 5, 3, none), (124, .lload 4, 2, some [false, false, false, false, true, false, true, false, false, false, false]), (126, .lload 4, 2, some [false, false, false, false, true, false, true, false, false, false, false]), (128, .lload 6, 2, none), (130, .invokestatic 342, 3, none), (133, .ldiv, 1, none), (134, .lreturn, 1, none)]
def mi_246 : PI := (9, 11, 3, 4, 9, 4, 91, cd_246)
/-- IllLightModel.darkest(I)I -/
def cd_247 : List (Nat × Instr × Nat × Option (List Bool)) := [(0, .iconst 0, 1, none), (1, .istore_n 2, 1, none), (2, .iconst 0, 1, none), (3, .istore_n 3, 1, none), (4, .iconst 0, 1, none), (5, .istore 4, 2, none), (7, .iload 4, 2, some [true, true, true, true, true]), (9, .bipush 24, 2, none), (11, .if_icmp .ge 38, 3, none), (14, .aload_n 0, 1, none), (15, .iload_n 1, 1, none), (16, .iload 4, 2, none), (18, .invokevirtual 218, 3, none), (21, .ifCond .eq 7, 3, none), (24, .iconst 0, 1, none), (25, .goto 6, 3, none), (28, .iload_n 3, 1, some [true, true, true, true, true]), (29, .iconst 1, 1, none), (30, .iadd, 1, none), (31, .istore_n 3, 1, some [true, true, true, false, true]), (32, .iload_n 3, 1, none), (33, .iload_n 2, 1, none), (34, .if_icmp .le 7, 3, none), (37, .iload_n 3, 1, none), (38, .goto 4, 3, none), (41, .iload_n 2, 1, some [true, true, true, true, true]), (42, .istore_n 2, 1, some [true, true, false, true, true]), (43, .iinc 4 1, 3, none), (46, .goto (-39), 3, none), (49, .iload_n 2, 1, some [false, false, true, false, false]), (50, .ireturn, 1, none)]
def mi_247 : PI := (9, 5, 1, 2, 9, 5, 118, cd_247)
/-- IllLightModel.hours(III)I -/
def cd_248 : List (Nat × Instr × Nat × Option (List Bool)) := [(0, .aload_n 0, 1, none), (1, .iload_n 1, 1, none), (2, .invokevirtual 190, 3, none), (5, .ifCond .eq 20, 3, none), (8, .aload_n 0, 1, none), (9, .iload_n 2, 1, none), (10, .invokevirtual 193, 3, none), (13, .ifCond .eq 12, 3, none), (16, .iload_n 3, 1, none), (17, .iconst 0, 1, none), (18, .iconst 4, 1, none), (19, .invokestatic 99, 3, none), (22, .ifCond .ne 5, 3, none), (25, .iconst (-1), 1, some [false, false, false, false, false, false, false, false, false]), (26, .ireturn, 1, none), (27, .aload_n 0, 1, some [true, false, true, true, false, false, false, false, false]), (28, .invokevirtual 215, 3, none), (31, .iload_n 3, 1, none), (32, .iconst 2, 1, none), (33, .if_icmp .ne 9, 3, none), (36, .aload_n 0, 1, none), (37, .iload_n 2, 1, none), (38, .invokevirtual 371, 3, none), (41, .ireturn, 1, none), (42, .iconst 0, 1, some [true, false, true, true, false, false, false, false, false]), (43, .istore 4, 2, none), (45, .iconst 0, 1, none), (46, .istore 5, 2, none), (48, .iconst 0, 1, none), (49, .istore 6, 2, none), (51, .iconst 0, 1, none), (52, .istore 7, 2, none), (54, .iload 7, 2, some [true, false, true, true, true, true, true, true, false]), (56, .bipush 24, 2, none), (58, .if_icmp .ge 106, 3, none), (61, .iload_n 3, 1, none), (62, .ifCond .ne 13, 3, none), (65, .aload_n 0, 1, none), (66, .iload_n 2, 1, none), (67, .iload 7, 2, none), (69, .invokevirtual 218, 3, none), (72, .goto 19, 3, none), (75, .aload_n 0, 1, some [true, false, true, true, true, true, true, true, false]), (76, .iload_n 2, 1, none), (77, .iload 7, 2, none), (79, .invokevirtual 212, 3, none), (82, .iconst 1, 1, none), (83, .if_icmp .ne 7, 3, none), (86, .iconst 1, 1, none), (87, .goto 4, 3, none), (90, .iconst 0, 1, some [true, false, true, true, true, true, true, true, false]), (91, .istore 8, 2, some [true, false, true, true, true, true, true, true, false]), (93, .iload 4, 2, none), (95, .iload 8, 2, none), (97, .ifCond .eq 10, 3, none), (100, .iconst 1, 1, none), (101, .iload 7, 2, none), (103, .ishl, 1, none), (104, .goto 4, 3, none), (107, .iconst 0, 1, some [true, false, true, true, false, true, true, true, false]), (108, .ior, 1, some [true, false, true, true, false, true, true, true, false]), (109, .istore 4, 2, none), (111, .aload_n 0, 1, none), (112, .iload_n 2, 1, none), (113, .iload 7, 2, none), (115, .invokevirtual 209, 3, none), (118, .aload_n 0, 1, none), (119, .iload_n 2, 1, none), (120, .iload 5, 2, none), (122, .invokevirtual 209, 3, none), (125, .if_icmp .le 8, 3, none), (128, .iload 7, 2, none), (130, .goto 5, 3, none), (133, .iload 5, 2, some [true, false, true, true, true, true, true, true, false]), (135, .istore 5, 2, some [true, false, true, true, true, false, true, true, false]), (137, .iload 6, 2, none), (139, .aload_n 0, 1, none), (140, .iload_n 2, 1, none), (141, .iload 7, 2, none), (143, .invokevirtual 212, 3, none), (146, .iconst 2, 1, none), (147, .if_icmp .ne 7, 3, none), (150, .iconst 1, 1, none), (151, .goto 4, 3, none), (154, .iconst 0, 1, some [true, false, true, true, true, true, false, true, false]), (155, .iadd, 1, some [true, false, true, true, true, true, false, true, false]), (156, .istore 6, 2, none), (158, .iinc 7 1, 3, none), (161, .goto (-107), 3, none), (164, .iload_n 3, 1, some [false, false, false, true, true, true, true, false, false]), (165, .iconst 3, 1, none), (166, .if_icmp .ne 8, 3, none), (169, .iload 5, 2, none), (171, .goto 15, 3, none), (174, .iload_n 3, 1, some [false, false, false, true, true, false, true, false, false]), (175, .iconst 4, 1, none), (176, .if_icmp .ne 8, 3, none), (179, .iload 6, 2, none), (181, .goto 5, 3, none), (184, .iload 4, 2, some [false, false, false, false, true, false, false, false, false]), (186, .ireturn, 1, some [false, false, false, false, false, false, false, false, false])]
def mi_248 : PI := (9, 9, 1, 4, 9, 6, 142, cd_248)
/-- IllLightModel.shade(II)I -/
def cd_249 : List (Nat × Instr × Nat × Option (List Bool)) := [(0, .aload_n 0, 1, none), (1, .iload_n 1, 1, none), (2, .invokevirtual 190, 3, none), (5, .ifCond .eq 11, 3, none), (8, .aload_n 0, 1, none), (9, .iload_n 2, 1, none), (10, .invokevirtual 193, 3, none), (13, .ifCond .ne 5, 3, none), (16, .iconst (-1), 1, some [false, false, false, false, false, false]), (17, .ireturn, 1, none), (18, .aload_n 0, 1, some [true, false, true, false, false, false]), (19, .iload_n 2, 1, none), (20, .iconst 0, 1, none), (21, .invokevirtual 196, 3, none), (24, .istore_n 3, 1, none), (25, .iload_n 3, 1, none), (26, .aload_n 0, 1, none), (27, .getfield 7, 3, none), (30, .aload_n 0, 1, none), (31, .getfield 178, 3, none), (34, .iconst 2, 1, none), (35, .iadd, 1, none), (36, .iaload, 1, none), (37, .if_icmp .ne 5, 3, none), (40, .iconst 0, 1, none), (41, .ireturn, 1, none), (42, .iconst 0, 1, some [true, false, false, true, false, false]), (43, .istore 4, 2, none), (45, .iconst 0, 1, none), (46, .istore 5, 2, none), (48, .iload 5, 2, some [true, false, false, true, true, true]), (50, .aload_n 0, 1, none), (51, .getfield 181, 3, none), (54, .aload_n 0, 1, none), (55, .getfield 184, 3, none), (58, .imul, 1, none), (59, .if_icmp .ge 29, 3, none), (62, .iload 4, 2, none), (64, .aload_n 0, 1, none), (65, .iload_n 3, 1, none), (66, .iload 5, 2, none), (68, .invokevirtual 254, 3, none), (71, .ifCond .eq 7, 3, none), (74, .iconst 1, 1, none), (75, .goto 4, 3, none), (78, .iconst 0, 1, some [true, false, false, true, false, true]), (79, .iadd, 1, some [true, false, false, true, false, true]), (80, .istore 4, 2, none), (82, .iinc 5 1, 3, none), (85, .goto (-37), 3, none), (88, .iload 4, 2, some [false, false, false, false, true, false]), (90, .ireturn, 1, none)]
def mi_249 : PI := (9, 6, 1, 3, 9, 3, 70, cd_249)
/-- IllLightModel.leaves(IIII)I -/
def cd_250 : List (Nat × Instr × Nat × Option (List Bool)) := [(0, .aload_n 0, 1, none), (1, .iload_n 1, 1, none), (2, .invokevirtual 190, 3, none), (5, .ifCond .eq 30, 3, none), (8, .aload_n 0, 1, none), (9, .iload_n 2, 1, none), (10, .invokevirtual 193, 3, none), (13, .ifCond .eq 22, 3, none), (16, .aload_n 0, 1, none), (17, .iload_n 3, 1, none), (18, .invokevirtual 294, 3, none), (21, .ifCond .eq 14, 3, none), (24, .iload 4, 2, none), (26, .iconst 0, 1, none), (27, .bipush 60, 2, none), (29, .invokestatic 99, 3, none), (32, .ifCond .ne 5, 3, none), (35, .iconst (-1), 1, some [false, false, false, false, false, false, false]), (36, .ireturn, 1, none), (37, .aload_n 0, 1, some [true, false, true, true, true, false, false]), (38, .invokevirtual 215, 3, none), (41, .iconst 0, 1, none), (42, .istore 5, 2, none), (44, .iconst 0, 1, none), (45, .istore 6, 2, none), (47, .iload 6, 2, some [true, false, true, true, true, true, true]), (49, .bipush 24, 2, none), (51, .if_icmp .ge 35, 3, none), (54, .iload 5, 2, none), (56, .aload_n 0, 1, none), (57, .iload_n 2, 1, none), (58, .iload_n 3, 1, none), (59, .iload 4, 2, none), (61, .iload 6, 2, none), (63, .invokevirtual 304, 3, none), (66, .ifCond .eq 10, 3, none), (69, .iconst 1, 1, none), (70, .iload 6, 2, none), (72, .ishl, 1, none), (73, .goto 4, 3, none), (76, .iconst 0, 1, some [true, false, true, true, true, false, true]), (77, .ior, 1, some [true, false, true, true, true, false, true]), (78, .istore 5, 2, none), (80, .iinc 6 1, 3, none), (83, .goto (-36), 3, none), (86, .iload 5, 2, some [false, false, false, false, false, true, false]), (88, .ireturn, 1, none)]
def mi_250 : PI := (9, 7, 1, 5, 9, 8, 194, cd_250)
/-- IllLightModel.passes(III)V -/
def cd_251 : List (Nat × Instr × Nat × Option (List Bool)) := [(0, .iconst 0, 1, none), (1, .istore 4, 2, none), (3, .iload 4, 2, some [true, true, true, true, true, false, false]), (5, .bipush 64, 2, none), (7, .if_icmp .ge 37, 3, none), (10, .aload_n 0, 1, none), (11, .getfield 35, 3, none), (14, .iload 4, 2, none), (16, .aload_n 0, 1, none), (17, .getfield 32, 3, none), (20, .iload 4, 2, none), (22, .baload, 1, none), (23, .bastore, 1, none), (24, .aload_n 0, 1, none), (25, .getfield 41, 3, none), (28, .iload 4, 2, none), (30, .aload_n 0, 1, none), (31, .getfield 38, 3, none), (34, .iload 4, 2, none), (36, .baload, 1, none), (37, .bastore, 1, none), (38, .iinc 4 1, 3, none), (41, .goto (-38), 3, none), (44, .iconst 0, 1, some [true, true, true, true, false, false, false]), (45, .istore 4, 2, none), (47, .iload 4, 2, some [true, true, true, true, true, false, false]), (49, .aload_n 0, 1, none), (50, .getfield 181, 3, none), (53, .aload_n 0, 1, none), (54, .getfield 184, 3, none), (57, .imul, 1, none), (58, .if_icmp .ge 107, 3, none), (61, .iconst 0, 1, none), (62, .istore 5, 2, none), (64, .iload 5, 2, some [true, true, true, true, true, true, false]), (66, .iconst 4, 1, none), (67, .if_icmp .ge 92, 3, none), (70, .aload_n 0, 1, none), (71, .iload 4, 2, none), (73, .iload 5, 2, none), (75, .invokevirtual 275, 3, none), (78, .istore 6, 2, none), (80, .iload 6, 2, none), (82, .iconst (-1), 1, none), (83, .if_icmp .ne 6, 3, none), (86, .goto 67, 3, none), (89, .aload_n 0, 1, some [true, true, true, true, true, true, true]), (90, .getfield 35, 3, none), (93, .iload 6, 2, none), (95, .aload_n 0, 1, none), (96, .getfield 35, 3, none), (99, .iload 6, 2, none), (101, .baload, 1, none), (102, .ifCond .ne 13, 3, none), (105, .aload_n 0, 1, none), (106, .getfield 32, 3, none), (109, .iload 4, 2, none), (111, .baload, 1, none), (112, .ifCond .eq 7, 3, none), (115, .iconst 1, 1, some [true, true, true, true, true, true, true]), (116, .goto 4, 3, none), (119, .iconst 0, 1, some [true, true, true, true, true, true, true]), (120, .bastore, 1, some [true, true, true, true, true, true, true]), (121, .aload_n 0, 1, none), (122, .getfield 41, 3, none), (125, .iload 6, 2, none), (127, .aload_n 0, 1, none), (128, .getfield 41, 3, none), (131, .iload 6, 2, none), (133, .baload, 1, none), (134, .ifCond .ne 13, 3, none), (137, .aload_n 0, 1, none), (138, .getfield 38, 3, none), (141, .iload 4, 2, none), (143, .baload, 1, none), (144, .ifCond .eq 7, 3, none), (147, .iconst 1, 1, some [true, true, true, true, true, true, false]), (148, .goto 4, 3, none), (151, .iconst 0, 1, some [true, true, true, true, true, true, false]), (152, .bastore, 1, some [true, true, true, true, true, true, false]), (153, .iinc 5 1, 3, some [true, true, true, true, true, true, false]), (156, .goto (-92), 3, none), (159, .iinc 4 1, 3, some [true, true, true, true, true, false, false]), (162, .goto (-115), 3, none), (165, .iconst 0, 1, some [true, true, true, true, false, false, false]), (166, .istore 4, 2, none), (168, .iload 4, 2, some [true, true, true, true, true, false, false]), (170, .aload_n 0, 1, none), (171, .getfield 181, 3, none), (174, .aload_n 0, 1, none), (175, .getfield 184, 3, none), (178, .imul, 1, none), (179, .if_icmp .ge 90, 3, none), (182, .aload_n 0, 1, none), (183, .iload_n 1, 1, none), (184, .iload 4, 2, none), (186, .iload_n 3, 1, none), (187, .iconst 0, 1, none), (188, .invokevirtual 291, 3, none), (191, .istore 5, 2, none), (193, .aload_n 0, 1, none), (194, .getfield 32, 3, none), (197, .iload 4, 2, none), (199, .iload 5, 2, none), (201, .ifCond .eq 17, 3, none), (204, .aload_n 0, 1, none), (205, .getfield 35, 3, none), (208, .iload 4, 2, none), (210, .baload, 1, none), (211, .ifCond .eq 7, 3, none), (214, .iconst 1, 1, none), (215, .goto 4, 3, none), (218, .iconst 0, 1, some [true, true, true, true, true, true, false]), (219, .bastore, 1, some [true, true, true, true, true, true, false]), (220, .aload_n 0, 1, none), (221, .getfield 38, 3, none), (224, .iload 4, 2, none), (226, .iload 5, 2, none), (228, .ifCond .eq 33, 3, none), (231, .aload_n 0, 1, none), (232, .getfield 41, 3, none), (235, .iload 4, 2, none), (237, .baload, 1, none), (238, .ifCond .ne 19, 3, none), (241, .iload 4, 2, none), (243, .iload_n 2, 1, none), (244, .if_icmp .ne 17, 3, none), (247, .aload_n 0, 1, none), (248, .getfield 35, 3, none), (251, .iload 4, 2, none), (253, .baload, 1, none), (254, .ifCond .eq 7, 3, none), (257, .iconst 1, 1, some [true, true, true, true, true, false, false]), (258, .goto 4, 3, none), (261, .iconst 0, 1, some [true, true, true, true, true, false, false]), (262, .bastore, 1, some [true, true, true, true, true, false, false]), (263, .iinc 4 1, 3, none), (266, .goto (-98), 3, none), (269, .return_, 1, some [false, false, false, false, false, false, false])]
def mi_251 : PI := (9, 7, 0, 4, 9, 6, 143, cd_251)
/-- IllLightModel.back(III)I -/
def cd_252 : List (Nat × Instr × Nat × Option (List Bool)) := [(0, .aload_n 0, 1, none), (1, .iload_n 1, 1, none), (2, .invokevirtual 190, 3, none), (5, .ifCond .eq 19, 3, none), (8, .aload_n 0, 1, none), (9, .iload_n 2, 1, none), (10, .invokevirtual 193, 3, none), (13, .ifCond .eq 11, 3, none), (16, .aload_n 0, 1, none), (17, .iload_n 3, 1, none), (18, .invokevirtual 294, 3, none), (21, .ifCond .ne 5, 3, none), (24, .iconst (-1), 1, some [false, false, false, false, false, false]), (25, .ireturn, 1, none), (26, .aload_n 0, 1, some [true, false, true, true, false, false]), (27, .invokevirtual 215, 3, none), (30, .aload_n 0, 1, none), (31, .iload_n 2, 1, none), (32, .iconst 0, 1, none), (33, .invokevirtual 196, 3, none), (36, .istore 4, 2, none), (38, .iconst 0, 1, none), (39, .istore 5, 2, none), (41, .iload 5, 2, some [true, false, true, true, true, true]), (43, .bipush 64, 2, none), (45, .if_icmp .ge 53, 3, none), (48, .aload_n 0, 1, none), (49, .getfield 32, 3, none), (52, .iload 5, 2, none), (54, .iload 5, 2, none), (56, .iload 4, 2, none), (58, .if_icmp .ne 7, 3, none), (61, .iconst 1, 1, none), (62, .goto 4, 3, none), (65, .iconst 0, 1, some [true, false, true, true, true, true]), (66, .bastore, 1, some [true, false, true, true, true, true]), (67, .aload_n 0, 1, none), (68, .getfield 38, 3, none), (71, .iload 5, 2, none), (73, .iload 5, 2, none), (75, .iload 4, 2, none), (77, .if_icmp .ne 13, 3, none), (80, .iload 5, 2, none), (82, .iload_n 3, 1, none), (83, .if_icmp .ne 7, 3, none), (86, .iconst 1, 1, none), (87, .goto 4, 3, none), (90, .iconst 0, 1, some [true, false, true, true, true, true]), (91, .bastore, 1, some [true, false, true, true, true, true]), (92, .iinc 5 1, 3, none), (95, .goto (-54), 3, none), (98, .iconst 0, 1, some [true, false, true, true, true, false]), (99, .istore 5, 2, none), (101, .iload 5, 2, some [true, false, true, true, true, true]), (103, .bipush 60, 2, none), (105, .if_icmp .gt 30, 3, none), (108, .aload_n 0, 1, none), (109, .getfield 38, 3, none), (112, .iload 4, 2, none), (114, .baload, 1, none), (115, .ifCond .eq 6, 3, none), (118, .iload 5, 2, none), (120, .ireturn, 1, none), (121, .aload_n 0, 1, some [true, false, true, true, true, true]), (122, .iload_n 2, 1, none), (123, .iload_n 3, 1, none), (124, .iload 5, 2, none), (126, .invokevirtual 374, 3, none), (129, .iinc 5 1, 3, none), (132, .goto (-31), 3, none), (135, .iconst (-1), 1, some [false, false, false, false, false, false]), (136, .ireturn, 1, none)]
def mi_252 : PI := (9, 6, 1, 4, 9, 7, 169, cd_252)
/-- IllLightModel.seenBy(III)I -/
def cd_253 : List (Nat × Instr × Nat × Option (List Bool)) := [(0, .iconst 0, 1, none), (1, .istore 4, 2, none), (3, .iconst 0, 1, none), (4, .istore 5, 2, none), (6, .iload 5, 2, some [true, true, true, true, true, true]), (8, .aload_n 0, 1, none), (9, .getfield 181, 3, none), (12, .aload_n 0, 1, none), (13, .getfield 184, 3, none), (16, .imul, 1, none), (17, .if_icmp .ge 41, 3, none), (20, .iload 4, 2, none), (22, .aload_n 0, 1, none), (23, .iload_n 1, 1, none), (24, .iload 5, 2, none), (26, .invokevirtual 248, 3, none), (29, .iload_n 3, 1, none), (30, .if_icmp .le 14, 3, none), (33, .aload_n 0, 1, none), (34, .iload_n 2, 1, none), (35, .iload 5, 2, none), (37, .invokevirtual 248, 3, none), (40, .iload_n 3, 1, none), (41, .if_icmp .gt 7, 3, none), (44, .iconst 1, 1, some [true, true, true, true, false, true]), (45, .goto 4, 3, none), (48, .iconst 0, 1, some [true, true, true, true, false, true]), (49, .iadd, 1, some [true, true, true, true, false, true]), (50, .istore 4, 2, none), (52, .iinc 5 1, 3, none), (55, .goto (-49), 3, none), (58, .iload 4, 2, some [false, false, false, false, true, false]), (60, .ireturn, 1, none)]
def mi_253 : PI := (9, 6, 1, 4, 9, 2, 43, cd_253)
/-- IllLightModel.crossed(I)I -/
def cd_254 : List (Nat × Instr × Nat × Option (List Bool)) := [(0, .iconst 0, 1, none), (1, .istore_n 2, 1, none), (2, .iconst (-1), 1, none), (3, .istore_n 3, 1, none), (4, .iconst 0, 1, none), (5, .istore 4, 2, none), (7, .iload 4, 2, some [true, true, true, true, true, false, false]), (9, .aload_n 0, 1, none), (10, .getfield 181, 3, none), (13, .aload_n 0, 1, none), (14, .getfield 184, 3, none), (17, .imul, 1, none), (18, .if_icmp .ge 81, 3, none), (21, .iconst 0, 1, none), (22, .istore 5, 2, none), (24, .iconst 0, 1, none), (25, .istore 6, 2, none), (27, .iload 6, 2, some [true, true, true, true, true, true, true]), (29, .aload_n 0, 1, none), (30, .getfield 181, 3, none), (33, .aload_n 0, 1, none), (34, .getfield 184, 3, none), (37, .imul, 1, none), (38, .if_icmp .ge 40, 3, none), (41, .iload 5, 2, none), (43, .aload_n 0, 1, none), (44, .iload 6, 2, none), (46, .invokevirtual 266, 3, none), (49, .ifCond .eq 19, 3, none), (52, .aload_n 0, 1, none), (53, .iload 4, 2, none), (55, .iload 6, 2, none), (57, .invokevirtual 248, 3, none), (60, .iload_n 1, 1, none), (61, .if_icmp .gt 7, 3, none), (64, .iconst 1, 1, none), (65, .goto 4, 3, none), (68, .iconst 0, 1, some [true, true, true, true, true, false, true]), (69, .iadd, 1, some [true, true, true, true, true, false, true]), (70, .istore 5, 2, none), (72, .iinc 6 1, 3, none), (75, .goto (-48), 3, none), (78, .iload 5, 2, some [true, true, true, true, true, true, false]), (80, .iload_n 3, 1, none), (81, .if_icmp .gt 6, 3, none), (84, .goto 9, 3, none), (87, .iload 4, 2, some [true, true, false, false, true, true, false]), (89, .istore_n 2, 1, none), (90, .iload 5, 2, none), (92, .istore_n 3, 1, none), (93, .iinc 4 1, 3, some [true, true, true, true, true, false, false]), (96, .goto (-89), 3, none), (99, .iload_n 2, 1, some [false, false, true, false, false, false, false]), (100, .ireturn, 1, none)]
def mi_254 : PI := (9, 7, 1, 2, 9, 2, 43, cd_254)
/-- IllLightModel.watch(III)I -/
def cd_255 : List (Nat × Instr × Nat × Option (List Bool)) := [(0, .aload_n 0, 1, none), (1, .iload_n 1, 1, none), (2, .invokevirtual 190, 3, none), (5, .ifCond .eq 22, 3, none), (8, .iload_n 2, 1, none), (9, .iconst 0, 1, none), (10, .bipush 7, 2, none), (12, .invokestatic 99, 3, none), (15, .ifCond .eq 12, 3, none), (18, .iload_n 3, 1, none), (19, .iconst 0, 1, none), (20, .iconst 3, 1, none), (21, .invokestatic 99, 3, none), (24, .ifCond .ne 5, 3, none), (27, .iconst (-1), 1, some [false, false, false, false, false, false, false, false, false, false]), (28, .ireturn, 1, none), (29, .iload_n 3, 1, some [true, false, true, true, false, false, false, false, false, false]), (30, .iconst 3, 1, none), (31, .if_icmp .ne 9, 3, none), (34, .aload_n 0, 1, none), (35, .iload_n 2, 1, none), (36, .invokevirtual 378, 3, none), (39, .ireturn, 1, none), (40, .iconst (-1), 1, some [true, false, true, true, false, false, false, false, false, false]), (41, .istore 4, 2, none), (43, .iconst (-1), 1, none), (44, .istore 5, 2, none), (46, .iconst (-1), 1, none), (47, .istore 6, 2, none), (49, .iconst 0, 1, none), (50, .istore 7, 2, none), (52, .iload 7, 2, some [true, false, true, true, true, true, true, true, false, false]), (54, .aload_n 0, 1, none), (55, .getfield 181, 3, none), (58, .aload_n 0, 1, none), (59, .getfield 184, 3, none), (62, .imul, 1, none), (63, .if_icmp .ge 68, 3, none), (66, .iload 7, 2, none), (68, .iconst 1, 1, none), (69, .iadd, 1, none), (70, .istore 8, 2, none), (72, .iload 8, 2, some [true, false, true, true, true, true, true, true, true, false]), (74, .aload_n 0, 1, none), (75, .getfield 181, 3, none), (78, .aload_n 0, 1, none), (79, .getfield 184, 3, none), (82, .imul, 1, none), (83, .if_icmp .ge 42, 3, none), (86, .aload_n 0, 1, none), (87, .iload 7, 2, none), (89, .iload 8, 2, none), (91, .iload_n 2, 1, none), (92, .invokevirtual 381, 3, none), (95, .istore 9, 2, none), (97, .iload 9, 2, none), (99, .iload 6, 2, none), (101, .if_icmp .gt 6, 3, none), (104, .goto 15, 3, none), (107, .iload 7, 2, some [true, false, true, true, false, false, false, true, true, true]), (109, .istore 4, 2, none), (111, .iload 8, 2, none), (113, .istore 5, 2, none), (115, .iload 9, 2, none), (117, .istore 6, 2, none), (119, .iinc 8 1, 3, some [true, false, true, true, true, true, true, true, true, false]), (122, .goto (-50), 3, none), (125, .iinc 7 1, 3, some [true, false, true, true, true, true, true, true, false, false]), (128, .goto (-76), 3, none), (131, .iload_n 3, 1, some [false, false, false, true, true, true, true, false, false, false]), (132, .ifCond .ne 8, 3, none), (135, .iload 6, 2, none), (137, .goto 15, 3, none), (140, .iload_n 3, 1, some [false, false, false, true, true, true, false, false, false, false]), (141, .iconst 1, 1, none), (142, .if_icmp .ne 8, 3, none), (145, .iload 4, 2, none), (147, .goto 5, 3, none), (150, .iload 5, 2, some [false, false, false, false, false, true, false, false, false, false]), (152, .ireturn, 1, some [false, false, false, false, false, false, false, false, false, false])]
def mi_255 : PI := (9, 10, 1, 4, 9, 3, 69, cd_255)
/-- IllLightModel.mutiny(IIIZ)I -/
def cd_256 : List (Nat × Instr × Nat × Option (List Bool)) := [(0, .aload_n 0, 1, none), (1, .iload_n 1, 1, none), (2, .invokevirtual 190, 3, none), (5, .ifCond .eq 30, 3, none), (8, .aload_n 0, 1, none), (9, .iload_n 2, 1, none), (10, .invokevirtual 193, 3, none), (13, .ifCond .eq 22, 3, none), (16, .aload_n 0, 1, none), (17, .iload_n 2, 1, none), (18, .iconst 3, 1, none), (19, .invokevirtual 196, 3, none), (22, .ifCond .eq 13, 3, none), (25, .iload_n 3, 1, none), (26, .iconst 0, 1, none), (27, .bipush 23, 2, none), (29, .invokestatic 99, 3, none), (32, .ifCond .ne 5, 3, none), (35, .iconst (-1), 1, some [false, false, false, false, false, false, false, false]), (36, .ireturn, 1, none), (37, .aload_n 0, 1, some [true, false, true, true, true, false, false, false]), (38, .invokevirtual 215, 3, none), (41, .iconst 0, 1, none), (42, .istore 5, 2, none), (44, .iconst 0, 1, none), (45, .istore 6, 2, none), (47, .iconst 0, 1, none), (48, .istore 7, 2, none), (50, .iload 7, 2, some [true, false, true, true, true, true, true, true]), (52, .aload_n 0, 1, none), (53, .iload_n 2, 1, none), (54, .iconst 3, 1, none), (55, .invokevirtual 196, 3, none), (58, .if_icmp .ge 68, 3, none), (61, .iload 5, 2, none), (63, .aload_n 0, 1, none), (64, .iload_n 2, 1, none), (65, .iload 7, 2, none), (67, .iload_n 3, 1, none), (68, .invokevirtual 205, 3, none), (71, .aload_n 0, 1, none), (72, .iload_n 2, 1, none), (73, .iconst 0, 1, none), (74, .iload_n 3, 1, none), (75, .invokevirtual 205, 3, none), (78, .if_icmp .le 10, 3, none), (81, .iconst 1, 1, none), (82, .iload 7, 2, none), (84, .ishl, 1, none), (85, .goto 4, 3, none), (88, .iconst 0, 1, some [true, false, true, true, true, false, true, true]), (89, .ior, 1, some [true, false, true, true, true, false, true, true]), (90, .istore 5, 2, none), (92, .aload_n 0, 1, none), (93, .iload_n 2, 1, none), (94, .iload 7, 2, none), (96, .iload_n 3, 1, none), (97, .invokevirtual 205, 3, none), (100, .aload_n 0, 1, none), (101, .iload_n 2, 1, none), (102, .iload 6, 2, none), (104, .iload_n 3, 1, none), (105, .invokevirtual 205, 3, none), (108, .if_icmp .le 8, 3, none), (111, .iload 7, 2, none), (113, .goto 5, 3, none), (116, .iload 6, 2, some [true, false, true, true, true, true, true, true]), (118, .istore 6, 2, some [true, false, true, true, true, true, false, true]), (120, .iinc 7 1, 3, none), (123, .goto (-73), 3, none), (126, .iload 4, 2, some [false, false, false, false, true, true, true, false]), (128, .ifCond .eq 8, 3, none), (131, .iload 6, 2, none), (133, .goto 5, 3, none), (136, .iload 5, 2, some [false, false, false, false, false, true, false, false]), (138, .ireturn, 1, some [false, false, false, false, false, false, false, false])]
def mi_256 : PI := (9, 8, 1, 5, 9, 3, 65, cd_256)
/-- IllLightModel.fraction(Z)J -/
def cd_257 : List (Nat × Instr × Nat × Option (List Bool)) := [(0, .aload_n 0, 1, none), (1, .getfield 384, 3, none), (4, .lconst 0, 1, none), (5, .lcmp, 1, none), (6, .ifCond .ne 13, 3, none), (9, .iload_n 1, 1, none), (10, .ifCond .eq 7, 3, none), (13, .lconst 1, 1, none), (14, .goto 4, 3, none), (17, .lconst 0, 1, some [false, false]), (18, .lreturn, 1, some [false, false]), (19, .iload_n 1, 1, some [true, true]), (20, .ifCond .eq 10, 3, none), (23, .aload_n 0, 1, none), (24, .getfield 384, 3, none), (27, .goto 7, 3, none), (30, .aload_n 0, 1, some [true, false]), (31, .getfield 388, 3, none), (34, .aload_n 0, 1, some [true, false]), (35, .getfield 388, 3, none), (38, .aload_n 0, 1, none), (39, .getfield 384, 3, none), (42, .invokestatic 342, 3, none), (45, .ldiv, 1, none), (46, .lreturn, 1, none)]
def mi_257 : PI := (9, 2, 3, 2, 9, 1, 29, cd_257)
/-- IllLightModel.weighs(ZJ)V -/
def cd_258 : List (Nat × Instr × Nat × Option (List Bool)) := [(0, .aload_n 0, 1, none), (1, .dup, 1, none), (2, .getfield 384, 3, none), (5, .lload_n 2, 1, none), (6, .ladd, 1, none), (7, .putfield 384, 3, none), (10, .aload_n 0, 1, none), (11, .dup, 1, none), (12, .getfield 388, 3, none), (15, .iload_n 1, 1, none), (16, .ifCond .eq 7, 3, none), (19, .lload_n 2, 1, none), (20, .goto 4, 3, none), (23, .lconst 0, 1, some [false, false, false, false]), (24, .ladd, 1, some [false, false, false, false]), (25, .putfield 388, 3, none), (28, .return_, 1, none)]
def mi_258 : PI := (9, 4, 0, 3, 9, 0, 0, cd_258)
/-- IllLightModel.next(IIZ)J -/
def cd_259 : List (Nat × Instr × Nat × Option (List Bool)) := [(0, .aload_n 0, 1, none), (1, .iload_n 1, 1, none), (2, .invokevirtual 349, 3, none), (5, .ifCond .eq 13, 3, none), (8, .iload_n 2, 1, none), (9, .iconst 0, 1, none), (10, .bipush 23, 2, none), (12, .invokestatic 99, 3, none), (15, .ifCond .ne 7, 3, none), (18, .ldc2_w 334, 3, some [false, false, false, false, false]), (21, .lreturn, 1, none), (22, .aload_n 0, 1, some [true, false, true, true, false]), (23, .lconst 0, 1, none), (24, .putfield 388, 3, none), (27, .aload_n 0, 1, none), (28, .lconst 0, 1, none), (29, .putfield 384, 3, none), (32, .iconst 0, 1, none), (33, .istore 4, 2, none), (35, .iload 4, 2, some [true, false, true, true, true]), (37, .iconst 1, 1, none), (38, .aload_n 0, 1, none), (39, .getfield 7, 3, none), (42, .aload_n 0, 1, none), (43, .getfield 346, 3, none), (46, .iaload, 1, none), (47, .ishl, 1, none), (48, .if_icmp .ge 26, 3, none), (51, .aload_n 0, 1, none), (52, .aload_n 0, 1, none), (53, .iload 4, 2, none), (55, .iload_n 2, 1, none), (56, .invokevirtual 352, 3, none), (59, .aload_n 0, 1, none), (60, .iload 4, 2, none), (62, .invokevirtual 367, 3, none), (65, .invokevirtual 391, 3, none), (68, .iinc 4 1, 3, none), (71, .goto (-36), 3, none), (74, .aload_n 0, 1, some [true, false, false, true, false]), (75, .iload_n 3, 1, none), (76, .invokevirtual 395, 3, none), (79, .lreturn, 1, none)]
def mi_259 : PI := (9, 5, 3, 4, 9, 4, 91, cd_259)
/-- IllLightModel.both(IIIZ)J -/
def cd_260 : List (Nat × Instr × Nat × Option (List Bool)) := [(0, .aload_n 0, 1, none), (1, .iload_n 1, 1, none), (2, .invokevirtual 349, 3, none), (5, .ifCond .eq 46, 3, none), (8, .iload_n 2, 1, none), (9, .iload_n 3, 1, none), (10, .if_icmp .eq 41, 3, none), (13, .iload_n 2, 1, none), (14, .iconst 0, 1, none), (15, .aload_n 0, 1, none), (16, .getfield 7, 3, none), (19, .aload_n 0, 1, none), (20, .getfield 346, 3, none), (23, .iaload, 1, none), (24, .iconst 1, 1, none), (25, .isub, 1, none), (26, .invokestatic 99, 3, none), (29, .ifCond .eq 22, 3, none), (32, .iload_n 3, 1, none), (33, .iconst 0, 1, none), (34, .aload_n 0, 1, none), (35, .getfield 7, 3, none), (38, .aload_n 0, 1, none), (39, .getfield 346, 3, none), (42, .iaload, 1, none), (43, .iconst 1, 1, none), (44, .isub, 1, none), (45, .invokestatic 99, 3, none), (48, .ifCond .ne 7, 3, none), (51, .ldc2_w 334, 3, some [false, false, false, false, false, false]), (54, .lreturn, 1, none), (55, .aload_n 0, 1, some [true, false, true, true, true, false]), (56, .lconst 0, 1, none), (57, .putfield 388, 3, none), (60, .aload_n 0, 1, none), (61, .lconst 0, 1, none), (62, .putfield 384, 3, none), (65, .iconst 0, 1, none), (66, .istore 5, 2, none), (68, .iload 5, 2, some [true, false, true, true, true, true]), (70, .iconst 1, 1, none), (71, .aload_n 0, 1, none), (72, .getfield 7, 3, none), (75, .aload_n 0, 1, none), (76, .getfield 346, 3, none), (79, .iaload, 1, none), (80, .ishl, 1, none), (81, .if_icmp .ge 44, 3, none), (84, .aload_n 0, 1, none), (85, .iload 5, 2, none), (87, .iload_n 2, 1, none), (88, .ishr, 1, none), (89, .iconst 1, 1, none), (90, .iand, 1, none), (91, .iconst 1, 1, none), (92, .if_icmp .ne 17, 3, none), (95, .iload 5, 2, none), (97, .iload_n 3, 1, none), (98, .ishr, 1, none), (99, .iconst 1, 1, none), (100, .iand, 1, none), (101, .iconst 1, 1, none), (102, .if_icmp .ne 7, 3, none), (105, .iconst 1, 1, none), (106, .goto 4, 3, none), (109, .iconst 0, 1, some [true, false, true, true, true, true]), (110, .aload_n 0, 1, some [true, false, true, true, true, true]), (111, .iload 5, 2, none), (113, .invokevirtual 367, 3, none), (116, .invokevirtual 391, 3, none), (119, .iinc 5 1, 3, none), (122, .goto (-54), 3, none), (125, .aload_n 0, 1, some [true, false, false, false, true, false]), (126, .iload 4, 2, none), (128, .invokevirtual 395, 3, none), (131, .lreturn, 1, none)]
def mi_260 : PI := (9, 6, 3, 5, 9, 4, 91, cd_260)
/-- IllLightModel.below(I)I -/
def cd_261 : List (Nat × Instr × Nat × Option (List Bool)) := [(0, .aload_n 0, 1, none), (1, .aload_n 0, 1, none), (2, .getfield 399, 3, none), (5, .ldc_w 402, 3, none), (8, .imul, 1, none), (9, .sipush 12345, 3, none), (12, .iadd, 1, none), (13, .putfield 399, 3, none), (16, .aload_n 0, 1, none), (17, .getfield 399, 3, none), (20, .bipush 16, 2, none), (22, .iushr, 1, none), (23, .iload_n 1, 1, none), (24, .irem, 1, none), (25, .ireturn, 1, none)]
def mi_261 : PI := (9, 2, 1, 2, 9, 0, 0, cd_261)
/-- IllLightModel.draws()V -/
def cd_262 : List (Nat × Instr × Nat × Option (List Bool)) := [(0, .aload_n 0, 1, none), (1, .aload_n 0, 1, none), (2, .getfield 187, 3, none), (5, .invokevirtual 403, 3, none), (8, .istore_n 1, 1, none), (9, .aload_n 0, 1, none), (10, .bipush 8, 2, none), (12, .invokevirtual 403, 3, none), (15, .istore_n 2, 1, none), (16, .iload_n 2, 1, none), (17, .iconst 4, 1, none), (18, .if_icmp .ge 15, 3, none), (21, .aload_n 0, 1, none), (22, .iconst 0, 1, none), (23, .iload_n 1, 1, none), (24, .iload_n 2, 1, none), (25, .iconst (-1), 1, none), (26, .invokevirtual 281, 3, none), (29, .pop, 1, none), (30, .goto 49, 3, none), (33, .iload_n 2, 1, some [true, true, true, false]), (34, .iconst 4, 1, none), (35, .if_icmp .ne 26, 3, none), (38, .aload_n 0, 1, none), (39, .iconst 4, 1, none), (40, .invokevirtual 403, 3, none), (43, .istore_n 3, 1, none), (44, .aload_n 0, 1, none), (45, .iconst 1, 1, none), (46, .iload_n 1, 1, none), (47, .iload_n 3, 1, none), (48, .aload_n 0, 1, none), (49, .bipush 10, 2, none), (51, .invokevirtual 403, 3, none), (54, .invokevirtual 281, 3, none), (57, .pop, 1, none), (58, .goto 21, 3, none), (61, .aload_n 0, 1, some [true, true, true, false]), (62, .iload_n 2, 1, none), (63, .iconst 5, 1, none), (64, .if_icmp .ne 7, 3, none), (67, .iconst 2, 1, none), (68, .goto 4, 3, none), (71, .iconst 3, 1, some [false, true, false, false]), (72, .iload_n 1, 1, some [false, true, false, false]), (73, .iconst (-1), 1, none), (74, .iconst (-1), 1, none), (75, .invokevirtual 281, 3, none), (78, .pop, 1, none), (79, .return_, 1, some [false, false, false, false])]
def mi_262 : PI := (9, 4, 0, 1, 9, 8, 189, cd_262)
/-- IllLightModel.drawn(IIII)I -/
def cd_263 : List (Nat × Instr × Nat × Option (List Bool)) := [(0, .aload_n 0, 1, none), (1, .iload_n 1, 1, none), (2, .invokevirtual 190, 3, none), (5, .ifCond .eq 25, 3, none), (8, .aload_n 0, 1, none), (9, .getfield 187, 3, none), (12, .ifCond .eq 18, 3, none), (15, .iload_n 3, 1, none), (16, .iconst 0, 1, none), (17, .bipush 60, 2, none), (19, .invokestatic 99, 3, none), (22, .ifCond .eq 8, 3, none), (25, .iload 4, 2, none), (27, .ifCond .ge 6, 3, none), (30, .bipush (-2), 2, some [false, false, false, false, false, false]), (32, .ireturn, 1, none), (33, .aload_n 0, 1, some [true, false, true, true, true, false]), (34, .iload_n 2, 1, none), (35, .putfield 399, 3, none), (38, .aload_n 0, 1, none), (39, .invokevirtual 278, 3, none), (42, .iconst 0, 1, none), (43, .istore 5, 2, none), (45, .iload 5, 2, some [true, false, false, true, true, true]), (47, .iload_n 3, 1, none), (48, .if_icmp .ge 13, 3, none), (51, .aload_n 0, 1, none), (52, .invokevirtual 406, 3, none), (55, .iinc 5 1, 3, none), (58, .goto (-13), 3, none), (61, .aload_n 0, 1, some [true, false, false, false, true, false]), (62, .iload 4, 2, none), (64, .invokevirtual 288, 3, none), (67, .ireturn, 1, none)]
def mi_263 : PI := (9, 6, 1, 5, 9, 9, 212, cd_263)
/-- IllLightModel.count(I)I -/
def cd_264 : List (Nat × Instr × Nat × Option (List Bool)) := [(0, .iload_n 1, 1, none), (1, .iconst 0, 1, none), (2, .iconst 2, 1, none), (3, .invokestatic 99, 3, none), (6, .ifCond .eq 12, 3, none), (9, .aload_n 0, 1, none), (10, .getfield 7, 3, none), (13, .iload_n 1, 1, none), (14, .iaload, 1, none), (15, .goto 5, 3, none), (18, .bipush (-2), 2, some [false, false]), (20, .ireturn, 1, some [false, false])]
def mi_264 : PI := (9, 2, 1, 2, 9, 1, 22, cd_264)
/-- IllLightModel.image(I)Z -/
def cd_265 : List (Nat × Instr × Nat × Option (List Bool)) := [(0, .iload_n 1, 1, none), (1, .iconst 0, 1, none), (2, .iconst 2, 1, none), (3, .invokestatic 99, 3, none), (6, .ifCond .ne 5, 3, none), (9, .iconst 0, 1, none), (10, .ireturn, 1, none), (11, .aload_n 0, 1, some [true, true, false]), (12, .getfield 13, 3, none), (15, .iload_n 1, 1, none), (16, .iconst 1, 1, none), (17, .bastore, 1, none), (18, .iconst 0, 1, none), (19, .istore_n 2, 1, none), (20, .iload_n 2, 1, some [true, true, true]), (21, .sipush 1276, 3, none), (24, .if_icmp .ge 29, 3, none), (27, .aload_n 0, 1, none), (28, .getfield 7, 3, none), (31, .sipush 1276, 3, none), (34, .iload_n 1, 1, none), (35, .iconst 1, 1, none), (36, .iadd, 1, none), (37, .imul, 1, none), (38, .iload_n 2, 1, none), (39, .iadd, 1, none), (40, .aload_n 0, 1, none), (41, .getfield 7, 3, none), (44, .iload_n 2, 1, none), (45, .iaload, 1, none), (46, .iastore, 1, none), (47, .iinc 2 1, 3, none), (50, .goto (-30), 3, none), (53, .iconst 1, 1, some [false, false, false]), (54, .ireturn, 1, none)]
def mi_265 : PI := (9, 3, 2, 2, 9, 1, 22, cd_265)
/-- IllLightModel.again(I)Z -/
def cd_266 : List (Nat × Instr × Nat × Option (List Bool)) := [(0, .iload_n 1, 1, none), (1, .iconst 0, 1, none), (2, .iconst 2, 1, none), (3, .invokestatic 99, 3, none), (6, .ifCond .eq 12, 3, none), (9, .aload_n 0, 1, none), (10, .getfield 13, 3, none), (13, .iload_n 1, 1, none), (14, .baload, 1, none), (15, .ifCond .ne 5, 3, none), (18, .iconst 0, 1, some [false, false, false]), (19, .ireturn, 1, none), (20, .iconst 0, 1, some [true, true, false]), (21, .istore_n 2, 1, none), (22, .iload_n 2, 1, some [true, true, true]), (23, .sipush 1276, 3, none), (26, .if_icmp .ge 29, 3, none), (29, .aload_n 0, 1, none), (30, .getfield 7, 3, none), (33, .iload_n 2, 1, none), (34, .aload_n 0, 1, none), (35, .getfield 7, 3, none), (38, .sipush 1276, 3, none), (41, .iload_n 1, 1, none), (42, .iconst 1, 1, none), (43, .iadd, 1, none), (44, .imul, 1, none), (45, .iload_n 2, 1, none), (46, .iadd, 1, none), (47, .iaload, 1, none), (48, .iastore, 1, none), (49, .iinc 2 1, 3, none), (52, .goto (-30), 3, none), (55, .iconst 1, 1, some [false, false, false]), (56, .ireturn, 1, none)]
def mi_266 : PI := (9, 3, 2, 2, 9, 1, 22, cd_266)
/-- java/lang/Integer.bitCount(I)I -/
def cd_267 : List (Nat × Instr × Nat × Option (List Bool)) := [(0, .iload_n 0, 1, none), (1, .iload_n 0, 1, none), (2, .iconst 1, 1, none), (3, .iushr, 1, none), (4, .ldc_w 265, 3, none), (7, .iand, 1, none), (8, .isub, 1, none), (9, .istore_n 0, 1, none), (10, .iload_n 0, 1, none), (11, .ldc_w 266, 3, none), (14, .iand, 1, none), (15, .iload_n 0, 1, none), (16, .iconst 2, 1, none), (17, .iushr, 1, none), (18, .ldc_w 266, 3, none), (21, .iand, 1, none), (22, .iadd, 1, none), (23, .istore_n 0, 1, none), (24, .iload_n 0, 1, none), (25, .iload_n 0, 1, none), (26, .iconst 4, 1, none), (27, .iushr, 1, none), (28, .iadd, 1, none), (29, .ldc_w 267, 3, none), (32, .iand, 1, none), (33, .istore_n 0, 1, none), (34, .iload_n 0, 1, none), (35, .iload_n 0, 1, none), (36, .bipush 8, 2, none), (38, .iushr, 1, none), (39, .iadd, 1, none), (40, .istore_n 0, 1, none), (41, .iload_n 0, 1, none), (42, .iload_n 0, 1, none), (43, .bipush 16, 2, none), (45, .iushr, 1, none), (46, .iadd, 1, none), (47, .istore_n 0, 1, none), (48, .iload_n 0, 1, none), (49, .bipush 63, 2, none), (51, .iand, 1, none), (52, .ireturn, 1, none)]
def mi_267 : PI := (10, 1, 1, 1, 0, 0, 0, cd_267)
/-- java/lang/Long.bitCount(J)I -/
def cd_268 : List (Nat × Instr × Nat × Option (List Bool)) := [(0, .lload_n 0, 1, none), (1, .lload_n 0, 1, none), (2, .iconst 1, 1, none), (3, .lushr, 1, none), (4, .ldc2_w 314, 3, none), (7, .land, 1, none), (8, .lsub, 1, none), (9, .lstore_n 0, 1, none), (10, .lload_n 0, 1, none), (11, .ldc2_w 316, 3, none), (14, .land, 1, none), (15, .lload_n 0, 1, none), (16, .iconst 2, 1, none), (17, .lushr, 1, none), (18, .ldc2_w 316, 3, none), (21, .land, 1, none), (22, .ladd, 1, none), (23, .lstore_n 0, 1, none), (24, .lload_n 0, 1, none), (25, .lload_n 0, 1, none), (26, .iconst 4, 1, none), (27, .lushr, 1, none), (28, .ladd, 1, none), (29, .ldc2_w 318, 3, none), (32, .land, 1, none), (33, .lstore_n 0, 1, none), (34, .lload_n 0, 1, none), (35, .lload_n 0, 1, none), (36, .bipush 8, 2, none), (38, .lushr, 1, none), (39, .ladd, 1, none), (40, .lstore_n 0, 1, none), (41, .lload_n 0, 1, none), (42, .lload_n 0, 1, none), (43, .bipush 16, 2, none), (45, .lushr, 1, none), (46, .ladd, 1, none), (47, .lstore_n 0, 1, none), (48, .lload_n 0, 1, none), (49, .lload_n 0, 1, none), (50, .bipush 32, 2, none), (52, .lushr, 1, none), (53, .ladd, 1, none), (54, .lstore_n 0, 1, none), (55, .lload_n 0, 1, none), (56, .l2i, 1, none), (57, .bipush 127, 2, none), (59, .iand, 1, none), (60, .ireturn, 1, none)]
def mi_268 : PI := (11, 2, 1, 1, 0, 0, 0, cd_268)
/-- java/lang/String.length()I -/
def cd_269 : List (Nat × Instr × Nat × Option (List Bool)) := [(0, .aload_n 0, 1, none), (1, .getfield 9, 3, none), (4, .arraylength, 1, none), (5, .aload_n 0, 1, none), (6, .invokevirtual 335, 3, none), (9, .ishr, 1, none), (10, .ireturn, 1, none)]
def mi_269 : PI := (12, 1, 1, 1, 61, 1, 20, cd_269)
/-- java/lang/String.charAt(I)C -/
def cd_270 : List (Nat × Instr × Nat × Option (List Bool)) := [(0, .aload_n 0, 1, none), (1, .invokevirtual 492, 3, none), (4, .ifCond .eq 12, 3, none), (7, .aload_n 0, 1, none), (8, .getfield 9, 3, none), (11, .iload_n 1, 1, none), (12, .invokestatic 495, 3, none), (15, .ireturn, 1, none), (16, .aload_n 0, 1, some [true, true]), (17, .getfield 9, 3, none), (20, .iload_n 1, 1, none), (21, .invokestatic 498, 3, none), (24, .ireturn, 1, none)]
def mi_270 : PI := (12, 2, 5, 2, 61, 3, 64, cd_270)
/-- java/lang/String.coder()B -/
def cd_271 : List (Nat × Instr × Nat × Option (List Bool)) := [(0, .getstatic 38, 3, none), (3, .ifCond .eq 10, 3, none), (6, .aload_n 0, 1, none), (7, .getfield 15, 3, none), (10, .goto 4, 3, none), (13, .iconst 1, 1, some [false]), (14, .ireturn, 1, some [false])]
def mi_271 : PI := (12, 1, 6, 1, 61, 0, 0, cd_271)
/-- java/lang/String.isLatin1()Z -/
def cd_272 : List (Nat × Instr × Nat × Option (List Bool)) := [(0, .getstatic 38, 3, none), (3, .ifCond .eq 14, 3, none), (6, .aload_n 0, 1, none), (7, .getfield 15, 3, none), (10, .ifCond .ne 7, 3, none), (13, .iconst 1, 1, none), (14, .goto 4, 3, none), (17, .iconst 0, 1, some [false]), (18, .ireturn, 1, some [false])]
def mi_272 : PI := (12, 1, 2, 1, 61, 0, 0, cd_272)
/-- java/lang/String.checkIndex(II)V -/
def cd_273 : List (Nat × Instr × Nat × Option (List Bool)) := [(0, .iload_n 0, 1, none), (1, .iload_n 1, 1, none), (2, .getstatic 1053, 3, none), (5, .invokestatic 1059, 3, none), (8, .pop, 1, none), (9, .return_, 1, none)]
def mi_273 : PI := (12, 2, 0, 2, 0, 1, 22, cd_273)
/-- java/lang/StringLatin1.charAt([BI)C -/
def cd_274 : List (Nat × Instr × Nat × Option (List Bool)) := [(0, .iload_n 1, 1, none), (1, .aload_n 0, 1, none), (2, .arraylength, 1, none), (3, .invokestatic 9, 3, none), (6, .aload_n 0, 1, none), (7, .iload_n 1, 1, none), (8, .baload, 1, none), (9, .sipush 255, 3, none), (12, .iand, 1, none), (13, .i2c, 1, none), (14, .ireturn, 1, none)]
def mi_274 : PI := (13, 2, 5, 2, 0, 2, 43, cd_274)
/-- jdk/internal/util/Preconditions.checkIndex(IILjava/util/function/BiFunction;)I -/
def cd_275 : List (Nat × Instr × Nat × Option (List Bool)) := [(0, .iload_n 0, 1, none), (1, .ifCond .lt 8, 3, none), (4, .iload_n 0, 1, none), (5, .iload_n 1, 1, none), (6, .if_icmp .lt 10, 3, none), (9, .aload_n 2, 1, some [true, true, true]), (10, .iload_n 0, 1, none), (11, .iload_n 1, 1, none), (12, .invokestatic 95, 3, none), (15, .athrow, 1, none), (16, .iload_n 0, 1, some [true, false, false]), (17, .ireturn, 1, none)]
def mi_275 : PI := (14, 3, 1, 3, 0, 0, 0, cd_275)
/-- IllLightLaw.law([I)Z -/
def cd_276 : List (Nat × Instr × Nat × Option (List Bool)) := [(0, .new 7, 3, none), (3, .dup, 1, none), (4, .invokespecial 9, 3, none), (7, .astore_n 1, 1, none), (8, .new 10, 3, none), (11, .dup, 1, none), (12, .invokespecial 12, 3, none), (15, .astore_n 2, 1, none), (16, .iconst 0, 1, none), (17, .istore_n 3, 1, none), (18, .iload_n 3, 1, some [true, true, true, true]), (19, .aload_n 0, 1, none), (20, .arraylength, 1, none), (21, .bipush 6, 2, none), (23, .isub, 1, none), (24, .if_icmp .gt 1494, 3, none), (27, .aload_n 0, 1, none), (28, .iload_n 3, 1, none), (29, .iaload, 1, none), (30, .bipush 31, 2, none), (32, .iand, 1, none), (33, .tableswitch 1479 0 29 #[135, 198, 221, 254, 277, 310, 363, 406, 459, 492, 545, 588, 641, 704, 747, 817, 850, 883, 943, 996, 1039, 1072, 1125, 1168, 1211, 1280, 1340, 1410, 1433, 1456], 135, none), (168, .aload_n 1, 1, some [true, true, true, true]), (169, .aload_n 0, 1, none), (170, .iload_n 3, 1, none), (171, .iconst 1, 1, none), (172, .iadd, 1, none), (173, .iaload, 1, none), (174, .aload_n 0, 1, none), (175, .iload_n 3, 1, none), (176, .iconst 2, 1, none), (177, .iadd, 1, none), (178, .iaload, 1, none), (179, .aload_n 0, 1, none), (180, .iload_n 3, 1, none), (181, .iconst 3, 1, none), (182, .iadd, 1, none), (183, .iaload, 1, none), (184, .aload_n 0, 1, none), (185, .iload_n 3, 1, none), (186, .iconst 4, 1, none), (187, .iadd, 1, none), (188, .iaload, 1, none), (189, .aload_n 0, 1, none), (190, .iload_n 3, 1, none), (191, .iconst 5, 1, none), (192, .iadd, 1, none), (193, .iaload, 1, none), (194, .invokevirtual 13, 3, none), (197, .aload_n 2, 1, none), (198, .aload_n 0, 1, none), (199, .iload_n 3, 1, none), (200, .iconst 1, 1, none), (201, .iadd, 1, none), (202, .iaload, 1, none), (203, .aload_n 0, 1, none), (204, .iload_n 3, 1, none), (205, .iconst 2, 1, none), (206, .iadd, 1, none), (207, .iaload, 1, none), (208, .aload_n 0, 1, none), (209, .iload_n 3, 1, none), (210, .iconst 3, 1, none), (211, .iadd, 1, none), (212, .iaload, 1, none), (213, .aload_n 0, 1, none), (214, .iload_n 3, 1, none), (215, .iconst 4, 1, none), (216, .iadd, 1, none), (217, .iaload, 1, none), (218, .aload_n 0, 1, none), (219, .iload_n 3, 1, none), (220, .iconst 5, 1, none), (221, .iadd, 1, none), (222, .iaload, 1, none), (223, .invokevirtual 17, 3, none), (226, .if_icmp .eq 1286, 3, none), (229, .iconst 0, 1, none), (230, .ireturn, 1, none), (231, .aload_n 1, 1, some [true, true, true, true]), (232, .aload_n 0, 1, none), (233, .iload_n 3, 1, none), (234, .iconst 1, 1, none), (235, .iadd, 1, none), (236, .iaload, 1, none), (237, .invokevirtual 18, 3, none), (240, .aload_n 2, 1, none), (241, .aload_n 0, 1, none), (242, .iload_n 3, 1, none), (243, .iconst 1, 1, none), (244, .iadd, 1, none), (245, .iaload, 1, none), (246, .invokevirtual 22, 3, none), (249, .if_icmp .eq 1263, 3, none), (252, .iconst 0, 1, none), (253, .ireturn, 1, none), (254, .aload_n 1, 1, some [true, true, true, true]), (255, .aload_n 0, 1, none), (256, .iload_n 3, 1, none), (257, .iconst 1, 1, none), (258, .iadd, 1, none), (259, .iaload, 1, none), (260, .aload_n 0, 1, none), (261, .iload_n 3, 1, none), (262, .iconst 2, 1, none), (263, .iadd, 1, none), (264, .iaload, 1, none), (265, .invokevirtual 23, 3, none), (268, .aload_n 2, 1, none), (269, .aload_n 0, 1, none), (270, .iload_n 3, 1, none), (271, .iconst 1, 1, none), (272, .iadd, 1, none), (273, .iaload, 1, none), (274, .aload_n 0, 1, none), (275, .iload_n 3, 1, none), (276, .iconst 2, 1, none), (277, .iadd, 1, none), (278, .iaload, 1, none), (279, .invokevirtual 27, 3, none), (282, .if_icmp .eq 1230, 3, none), (285, .iconst 0, 1, none), (286, .ireturn, 1, none), (287, .aload_n 1, 1, some [true, true, true, true]), (288, .aload_n 0, 1, none), (289, .iload_n 3, 1, none), (290, .iconst 1, 1, none), (291, .iadd, 1, none), (292, .iaload, 1, none), (293, .invokevirtual 28, 3, none), (296, .aload_n 2, 1, none), (297, .aload_n 0, 1, none), (298, .iload_n 3, 1, none), (299, .iconst 1, 1, none), (300, .iadd, 1, none), (301, .iaload, 1, none), (302, .invokevirtual 31, 3, none), (305, .if_icmp .eq 1207, 3, none), (308, .iconst 0, 1, none), (309, .ireturn, 1, none), (310, .aload_n 1, 1, some [true, true, true, true]), (311, .aload_n 0, 1, none), (312, .iload_n 3, 1, none), (313, .iconst 1, 1, none), (314, .iadd, 1, none), (315, .iaload, 1, none), (316, .aload_n 0, 1, none), (317, .iload_n 3, 1, none), (318, .iconst 2, 1, none), (319, .iadd, 1, none), (320, .iaload, 1, none), (321, .invokevirtual 32, 3, none), (324, .aload_n 2, 1, none), (325, .aload_n 0, 1, none), (326, .iload_n 3, 1, none), (327, .iconst 1, 1, none), (328, .iadd, 1, none), (329, .iaload, 1, none), (330, .aload_n 0, 1, none), (331, .iload_n 3, 1, none), (332, .iconst 2, 1, none), (333, .iadd, 1, none), (334, .iaload, 1, none), (335, .invokevirtual 35, 3, none), (338, .if_icmp .eq 1174, 3, none), (341, .iconst 0, 1, none), (342, .ireturn, 1, none), (343, .aload_n 1, 1, some [true, true, true, true]), (344, .aload_n 0, 1, none), (345, .iload_n 3, 1, none), (346, .iconst 1, 1, none), (347, .iadd, 1, none), (348, .iaload, 1, none), (349, .aload_n 0, 1, none), (350, .iload_n 3, 1, none), (351, .iconst 2, 1, none), (352, .iadd, 1, none), (353, .iaload, 1, none), (354, .aload_n 0, 1, none), (355, .iload_n 3, 1, none), (356, .iconst 3, 1, none), (357, .iadd, 1, none), (358, .iaload, 1, none), (359, .aload_n 0, 1, none), (360, .iload_n 3, 1, none), (361, .iconst 4, 1, none), (362, .iadd, 1, none), (363, .iaload, 1, none), (364, .invokevirtual 36, 3, none), (367, .aload_n 2, 1, none), (368, .aload_n 0, 1, none), (369, .iload_n 3, 1, none), (370, .iconst 1, 1, none), (371, .iadd, 1, none), (372, .iaload, 1, none), (373, .aload_n 0, 1, none), (374, .iload_n 3, 1, none), (375, .iconst 2, 1, none), (376, .iadd, 1, none), (377, .iaload, 1, none), (378, .aload_n 0, 1, none), (379, .iload_n 3, 1, none), (380, .iconst 3, 1, none), (381, .iadd, 1, none), (382, .iaload, 1, none), (383, .aload_n 0, 1, none), (384, .iload_n 3, 1, none), (385, .iconst 4, 1, none), (386, .iadd, 1, none), (387, .iaload, 1, none), (388, .invokevirtual 40, 3, none), (391, .if_icmp .eq 1121, 3, none), (394, .iconst 0, 1, none), (395, .ireturn, 1, none), (396, .aload_n 1, 1, some [true, true, true, true]), (397, .aload_n 0, 1, none), (398, .iload_n 3, 1, none), (399, .iconst 1, 1, none), (400, .iadd, 1, none), (401, .iaload, 1, none), (402, .aload_n 0, 1, none), (403, .iload_n 3, 1, none), (404, .iconst 2, 1, none), (405, .iadd, 1, none), (406, .iaload, 1, none), (407, .aload_n 0, 1, none), (408, .iload_n 3, 1, none), (409, .iconst 3, 1, none), (410, .iadd, 1, none), (411, .iaload, 1, none), (412, .invokevirtual 41, 3, none), (415, .aload_n 2, 1, none), (416, .aload_n 0, 1, none), (417, .iload_n 3, 1, none), (418, .iconst 1, 1, none), (419, .iadd, 1, none), (420, .iaload, 1, none), (421, .aload_n 0, 1, none), (422, .iload_n 3, 1, none), (423, .iconst 2, 1, none), (424, .iadd, 1, none), (425, .iaload, 1, none), (426, .aload_n 0, 1, none), (427, .iload_n 3, 1, none), (428, .iconst 3, 1, none), (429, .iadd, 1, none), (430, .iaload, 1, none), (431, .invokevirtual 45, 3, none), (434, .if_icmp .eq 1078, 3, none), (437, .iconst 0, 1, none), (438, .ireturn, 1, none), (439, .aload_n 1, 1, some [true, true, true, true]), (440, .aload_n 0, 1, none), (441, .iload_n 3, 1, none), (442, .iconst 1, 1, none), (443, .iadd, 1, none), (444, .iaload, 1, none), (445, .aload_n 0, 1, none), (446, .iload_n 3, 1, none), (447, .iconst 2, 1, none), (448, .iadd, 1, none), (449, .iaload, 1, none), (450, .aload_n 0, 1, none), (451, .iload_n 3, 1, none), (452, .iconst 3, 1, none), (453, .iadd, 1, none), (454, .iaload, 1, none), (455, .aload_n 0, 1, none), (456, .iload_n 3, 1, none), (457, .iconst 4, 1, none), (458, .iadd, 1, none), (459, .iaload, 1, none), (460, .invokevirtual 46, 3, none), (463, .aload_n 2, 1, none), (464, .aload_n 0, 1, none), (465, .iload_n 3, 1, none), (466, .iconst 1, 1, none), (467, .iadd, 1, none), (468, .iaload, 1, none), (469, .aload_n 0, 1, none), (470, .iload_n 3, 1, none), (471, .iconst 2, 1, none), (472, .iadd, 1, none), (473, .iaload, 1, none), (474, .aload_n 0, 1, none), (475, .iload_n 3, 1, none), (476, .iconst 3, 1, none), (477, .iadd, 1, none), (478, .iaload, 1, none), (479, .aload_n 0, 1, none), (480, .iload_n 3, 1, none), (481, .iconst 4, 1, none), (482, .iadd, 1, none), (483, .iaload, 1, none), (484, .invokevirtual 49, 3, none), (487, .if_icmp .eq 1025, 3, none), (490, .iconst 0, 1, none), (491, .ireturn, 1, none), (492, .aload_n 1, 1, some [true, true, true, true]), (493, .aload_n 0, 1, none), (494, .iload_n 3, 1, none), (495, .iconst 1, 1, none), (496, .iadd, 1, none), (497, .iaload, 1, none), (498, .aload_n 0, 1, none), (499, .iload_n 3, 1, none), (500, .iconst 2, 1, none), (501, .iadd, 1, none), (502, .iaload, 1, none), (503, .invokevirtual 50, 3, none), (506, .aload_n 2, 1, none), (507, .aload_n 0, 1, none), (508, .iload_n 3, 1, none), (509, .iconst 1, 1, none), (510, .iadd, 1, none), (511, .iaload, 1, none), (512, .aload_n 0, 1, none), (513, .iload_n 3, 1, none), (514, .iconst 2, 1, none), (515, .iadd, 1, none), (516, .iaload, 1, none), (517, .invokevirtual 53, 3, none), (520, .if_icmp .eq 992, 3, none), (523, .iconst 0, 1, none), (524, .ireturn, 1, none), (525, .aload_n 1, 1, some [true, true, true, true]), (526, .aload_n 0, 1, none), (527, .iload_n 3, 1, none), (528, .iconst 1, 1, none), (529, .iadd, 1, none), (530, .iaload, 1, none), (531, .aload_n 0, 1, none), (532, .iload_n 3, 1, none), (533, .iconst 2, 1, none), (534, .iadd, 1, none), (535, .iaload, 1, none), (536, .aload_n 0, 1, none), (537, .iload_n 3, 1, none), (538, .iconst 3, 1, none), (539, .iadd, 1, none), (540, .iaload, 1, none), (541, .aload_n 0, 1, none), (542, .iload_n 3, 1, none), (543, .iconst 4, 1, none), (544, .iadd, 1, none), (545, .iaload, 1, none), (546, .invokevirtual 54, 3, none), (549, .aload_n 2, 1, none), (550, .aload_n 0, 1, none), (551, .iload_n 3, 1, none), (552, .iconst 1, 1, none), (553, .iadd, 1, none), (554, .iaload, 1, none), (555, .aload_n 0, 1, none), (556, .iload_n 3, 1, none), (557, .iconst 2, 1, none), (558, .iadd, 1, none), (559, .iaload, 1, none), (560, .aload_n 0, 1, none), (561, .iload_n 3, 1, none), (562, .iconst 3, 1, none), (563, .iadd, 1, none), (564, .iaload, 1, none), (565, .aload_n 0, 1, none), (566, .iload_n 3, 1, none), (567, .iconst 4, 1, none), (568, .iadd, 1, none), (569, .iaload, 1, none), (570, .invokevirtual 57, 3, none), (573, .if_icmp .eq 939, 3, none), (576, .iconst 0, 1, none), (577, .ireturn, 1, none), (578, .aload_n 1, 1, some [true, true, true, true]), (579, .aload_n 0, 1, none), (580, .iload_n 3, 1, none), (581, .iconst 1, 1, none), (582, .iadd, 1, none), (583, .iaload, 1, none), (584, .aload_n 0, 1, none), (585, .iload_n 3, 1, none), (586, .iconst 2, 1, none), (587, .iadd, 1, none), (588, .iaload, 1, none), (589, .aload_n 0, 1, none), (590, .iload_n 3, 1, none), (591, .iconst 3, 1, none), (592, .iadd, 1, none), (593, .iaload, 1, none), (594, .invokevirtual 58, 3, none), (597, .aload_n 2, 1, none), (598, .aload_n 0, 1, none), (599, .iload_n 3, 1, none), (600, .iconst 1, 1, none), (601, .iadd, 1, none), (602, .iaload, 1, none), (603, .aload_n 0, 1, none), (604, .iload_n 3, 1, none), (605, .iconst 2, 1, none), (606, .iadd, 1, none), (607, .iaload, 1, none), (608, .aload_n 0, 1, none), (609, .iload_n 3, 1, none), (610, .iconst 3, 1, none), (611, .iadd, 1, none), (612, .iaload, 1, none), (613, .invokevirtual 61, 3, none), (616, .if_icmp .eq 896, 3, none), (619, .iconst 0, 1, none), (620, .ireturn, 1, none), (621, .aload_n 1, 1, some [true, true, true, true]), (622, .aload_n 0, 1, none), (623, .iload_n 3, 1, none), (624, .iconst 1, 1, none), (625, .iadd, 1, none), (626, .iaload, 1, none), (627, .aload_n 0, 1, none), (628, .iload_n 3, 1, none), (629, .iconst 2, 1, none), (630, .iadd, 1, none), (631, .iaload, 1, none), (632, .aload_n 0, 1, none), (633, .iload_n 3, 1, none), (634, .iconst 3, 1, none), (635, .iadd, 1, none), (636, .iaload, 1, none), (637, .aload_n 0, 1, none), (638, .iload_n 3, 1, none), (639, .iconst 4, 1, none), (640, .iadd, 1, none), (641, .iaload, 1, none), (642, .invokevirtual 62, 3, none), (645, .aload_n 2, 1, none), (646, .aload_n 0, 1, none), (647, .iload_n 3, 1, none), (648, .iconst 1, 1, none), (649, .iadd, 1, none), (650, .iaload, 1, none), (651, .aload_n 0, 1, none), (652, .iload_n 3, 1, none), (653, .iconst 2, 1, none), (654, .iadd, 1, none), (655, .iaload, 1, none), (656, .aload_n 0, 1, none), (657, .iload_n 3, 1, none), (658, .iconst 3, 1, none), (659, .iadd, 1, none), (660, .iaload, 1, none), (661, .aload_n 0, 1, none), (662, .iload_n 3, 1, none), (663, .iconst 4, 1, none), (664, .iadd, 1, none), (665, .iaload, 1, none), (666, .invokevirtual 65, 3, none), (669, .if_icmp .eq 843, 3, none), (672, .iconst 0, 1, none), (673, .ireturn, 1, none), (674, .aload_n 1, 1, some [true, true, true, true]), (675, .aload_n 0, 1, none), (676, .iload_n 3, 1, none), (677, .iconst 1, 1, none), (678, .iadd, 1, none), (679, .iaload, 1, none), (680, .aload_n 0, 1, none), (681, .iload_n 3, 1, none), (682, .iconst 2, 1, none), (683, .iadd, 1, none), (684, .iaload, 1, none), (685, .aload_n 0, 1, none), (686, .iload_n 3, 1, none), (687, .iconst 3, 1, none), (688, .iadd, 1, none), (689, .iaload, 1, none), (690, .aload_n 0, 1, none), (691, .iload_n 3, 1, none), (692, .iconst 4, 1, none), (693, .iadd, 1, none), (694, .iaload, 1, none), (695, .aload_n 0, 1, none), (696, .iload_n 3, 1, none), (697, .iconst 5, 1, none), (698, .iadd, 1, none), (699, .iaload, 1, none), (700, .invokevirtual 66, 3, none), (703, .aload_n 2, 1, none), (704, .aload_n 0, 1, none), (705, .iload_n 3, 1, none), (706, .iconst 1, 1, none), (707, .iadd, 1, none), (708, .iaload, 1, none), (709, .aload_n 0, 1, none), (710, .iload_n 3, 1, none), (711, .iconst 2, 1, none), (712, .iadd, 1, none), (713, .iaload, 1, none), (714, .aload_n 0, 1, none), (715, .iload_n 3, 1, none), (716, .iconst 3, 1, none), (717, .iadd, 1, none), (718, .iaload, 1, none), (719, .aload_n 0, 1, none), (720, .iload_n 3, 1, none), (721, .iconst 4, 1, none), (722, .iadd, 1, none), (723, .iaload, 1, none), (724, .aload_n 0, 1, none), (725, .iload_n 3, 1, none), (726, .iconst 5, 1, none), (727, .iadd, 1, none), (728, .iaload, 1, none), (729, .invokevirtual 69, 3, none), (732, .if_icmp .eq 780, 3, none), (735, .iconst 0, 1, none), (736, .ireturn, 1, none), (737, .aload_n 1, 1, some [true, true, true, true]), (738, .aload_n 0, 1, none), (739, .iload_n 3, 1, none), (740, .iconst 1, 1, none), (741, .iadd, 1, none), (742, .iaload, 1, none), (743, .aload_n 0, 1, none), (744, .iload_n 3, 1, none), (745, .iconst 2, 1, none), (746, .iadd, 1, none), (747, .iaload, 1, none), (748, .aload_n 0, 1, none), (749, .iload_n 3, 1, none), (750, .iconst 3, 1, none), (751, .iadd, 1, none), (752, .iaload, 1, none), (753, .invokevirtual 70, 3, none), (756, .aload_n 2, 1, none), (757, .aload_n 0, 1, none), (758, .iload_n 3, 1, none), (759, .iconst 1, 1, none), (760, .iadd, 1, none), (761, .iaload, 1, none), (762, .aload_n 0, 1, none), (763, .iload_n 3, 1, none), (764, .iconst 2, 1, none), (765, .iadd, 1, none), (766, .iaload, 1, none), (767, .aload_n 0, 1, none), (768, .iload_n 3, 1, none), (769, .iconst 3, 1, none), (770, .iadd, 1, none), (771, .iaload, 1, none), (772, .invokevirtual 73, 3, none), (775, .if_icmp .eq 737, 3, none), (778, .iconst 0, 1, none), (779, .ireturn, 1, none), (780, .aload_n 1, 1, some [true, true, true, true]), (781, .aload_n 0, 1, none), (782, .iload_n 3, 1, none), (783, .iconst 1, 1, none), (784, .iadd, 1, none), (785, .iaload, 1, none), (786, .aload_n 0, 1, none), (787, .iload_n 3, 1, none), (788, .iconst 2, 1, none), (789, .iadd, 1, none), (790, .iaload, 1, none), (791, .aload_n 0, 1, none), (792, .iload_n 3, 1, none), (793, .iconst 3, 1, none), (794, .iadd, 1, none), (795, .iaload, 1, none), (796, .aload_n 0, 1, none), (797, .iload_n 3, 1, none), (798, .iconst 4, 1, none), (799, .iadd, 1, none), (800, .iaload, 1, none), (801, .ifCond .eq 7, 3, none), (804, .iconst 1, 1, none), (805, .goto 4, 3, none), (808, .iconst 0, 1, some [true, true, true, true]), (809, .invokevirtual 74, 3, some [true, true, true, true]), (812, .aload_n 2, 1, none), (813, .aload_n 0, 1, none), (814, .iload_n 3, 1, none), (815, .iconst 1, 1, none), (816, .iadd, 1, none), (817, .iaload, 1, none), (818, .aload_n 0, 1, none), (819, .iload_n 3, 1, none), (820, .iconst 2, 1, none), (821, .iadd, 1, none), (822, .iaload, 1, none), (823, .aload_n 0, 1, none), (824, .iload_n 3, 1, none), (825, .iconst 3, 1, none), (826, .iadd, 1, none), (827, .iaload, 1, none), (828, .aload_n 0, 1, none), (829, .iload_n 3, 1, none), (830, .iconst 4, 1, none), (831, .iadd, 1, none), (832, .iaload, 1, none), (833, .ifCond .eq 7, 3, none), (836, .iconst 1, 1, none), (837, .goto 4, 3, none), (840, .iconst 0, 1, some [true, true, true, true]), (841, .invokevirtual 78, 3, some [true, true, true, true]), (844, .lcmp, 1, none), (845, .ifCond .eq 667, 3, none), (848, .iconst 0, 1, none), (849, .ireturn, 1, none), (850, .aload_n 1, 1, some [true, true, true, true]), (851, .aload_n 0, 1, none), (852, .iload_n 3, 1, none), (853, .iconst 1, 1, none), (854, .iadd, 1, none), (855, .iaload, 1, none), (856, .aload_n 0, 1, none), (857, .iload_n 3, 1, none), (858, .iconst 2, 1, none), (859, .iadd, 1, none), (860, .iaload, 1, none), (861, .invokevirtual 79, 3, none), (864, .aload_n 2, 1, none), (865, .aload_n 0, 1, none), (866, .iload_n 3, 1, none), (867, .iconst 1, 1, none), (868, .iadd, 1, none), (869, .iaload, 1, none), (870, .aload_n 0, 1, none), (871, .iload_n 3, 1, none), (872, .iconst 2, 1, none), (873, .iadd, 1, none), (874, .iaload, 1, none), (875, .invokevirtual 82, 3, none), (878, .if_icmp .eq 634, 3, none), (881, .iconst 0, 1, none), (882, .ireturn, 1, none), (883, .aload_n 1, 1, some [true, true, true, true]), (884, .aload_n 0, 1, none), (885, .iload_n 3, 1, none), (886, .iconst 1, 1, none), (887, .iadd, 1, none), (888, .iaload, 1, none), (889, .aload_n 0, 1, none), (890, .iload_n 3, 1, none), (891, .iconst 2, 1, none), (892, .iadd, 1, none), (893, .iaload, 1, none), (894, .invokevirtual 83, 3, none), (897, .aload_n 2, 1, none), (898, .aload_n 0, 1, none), (899, .iload_n 3, 1, none), (900, .iconst 1, 1, none), (901, .iadd, 1, none), (902, .iaload, 1, none), (903, .aload_n 0, 1, none), (904, .iload_n 3, 1, none), (905, .iconst 2, 1, none), (906, .iadd, 1, none), (907, .iaload, 1, none), (908, .invokevirtual 86, 3, none), (911, .if_icmp .eq 601, 3, none), (914, .iconst 0, 1, none), (915, .ireturn, 1, none), (916, .aload_n 1, 1, some [true, true, true, true]), (917, .aload_n 0, 1, none), (918, .iload_n 3, 1, none), (919, .iconst 1, 1, none), (920, .iadd, 1, none), (921, .iaload, 1, none), (922, .aload_n 0, 1, none), (923, .iload_n 3, 1, none), (924, .iconst 2, 1, none), (925, .iadd, 1, none), (926, .iaload, 1, none), (927, .aload_n 0, 1, none), (928, .iload_n 3, 1, none), (929, .iconst 3, 1, none), (930, .iadd, 1, none), (931, .iaload, 1, none), (932, .ifCond .eq 7, 3, none), (935, .iconst 1, 1, none), (936, .goto 4, 3, none), (939, .iconst 0, 1, some [true, true, true, true]), (940, .invokevirtual 87, 3, some [true, true, true, true]), (943, .aload_n 2, 1, none), (944, .aload_n 0, 1, none), (945, .iload_n 3, 1, none), (946, .iconst 1, 1, none), (947, .iadd, 1, none), (948, .iaload, 1, none), (949, .aload_n 0, 1, none), (950, .iload_n 3, 1, none), (951, .iconst 2, 1, none), (952, .iadd, 1, none), (953, .iaload, 1, none), (954, .aload_n 0, 1, none), (955, .iload_n 3, 1, none), (956, .iconst 3, 1, none), (957, .iadd, 1, none), (958, .iaload, 1, none), (959, .ifCond .eq 7, 3, none), (962, .iconst 1, 1, none), (963, .goto 4, 3, none), (966, .iconst 0, 1, some [true, true, true, true]), (967, .invokevirtual 91, 3, some [true, true, true, true]), (970, .lcmp, 1, none), (971, .ifCond .eq 541, 3, none), (974, .iconst 0, 1, none), (975, .ireturn, 1, none), (976, .aload_n 1, 1, some [true, true, true, true]), (977, .aload_n 0, 1, none), (978, .iload_n 3, 1, none), (979, .iconst 1, 1, none), (980, .iadd, 1, none), (981, .iaload, 1, none), (982, .aload_n 0, 1, none), (983, .iload_n 3, 1, none), (984, .iconst 2, 1, none), (985, .iadd, 1, none), (986, .iaload, 1, none), (987, .aload_n 0, 1, none), (988, .iload_n 3, 1, none), (989, .iconst 3, 1, none), (990, .iadd, 1, none), (991, .iaload, 1, none), (992, .aload_n 0, 1, none), (993, .iload_n 3, 1, none), (994, .iconst 4, 1, none), (995, .iadd, 1, none), (996, .iaload, 1, none), (997, .invokevirtual 92, 3, none), (1000, .aload_n 2, 1, none), (1001, .aload_n 0, 1, none), (1002, .iload_n 3, 1, none), (1003, .iconst 1, 1, none), (1004, .iadd, 1, none), (1005, .iaload, 1, none), (1006, .aload_n 0, 1, none), (1007, .iload_n 3, 1, none), (1008, .iconst 2, 1, none), (1009, .iadd, 1, none), (1010, .iaload, 1, none), (1011, .aload_n 0, 1, none), (1012, .iload_n 3, 1, none), (1013, .iconst 3, 1, none), (1014, .iadd, 1, none), (1015, .iaload, 1, none), (1016, .aload_n 0, 1, none), (1017, .iload_n 3, 1, none), (1018, .iconst 4, 1, none), (1019, .iadd, 1, none), (1020, .iaload, 1, none), (1021, .invokevirtual 95, 3, none), (1024, .if_icmp .eq 488, 3, none), (1027, .iconst 0, 1, none), (1028, .ireturn, 1, none), (1029, .aload_n 1, 1, some [true, true, true, true]), (1030, .aload_n 0, 1, none), (1031, .iload_n 3, 1, none), (1032, .iconst 1, 1, none), (1033, .iadd, 1, none), (1034, .iaload, 1, none), (1035, .aload_n 0, 1, none), (1036, .iload_n 3, 1, none), (1037, .iconst 2, 1, none), (1038, .iadd, 1, none), (1039, .iaload, 1, none), (1040, .aload_n 0, 1, none), (1041, .iload_n 3, 1, none), (1042, .iconst 3, 1, none), (1043, .iadd, 1, none), (1044, .iaload, 1, none), (1045, .invokevirtual 96, 3, none), (1048, .aload_n 2, 1, none), (1049, .aload_n 0, 1, none), (1050, .iload_n 3, 1, none), (1051, .iconst 1, 1, none), (1052, .iadd, 1, none), (1053, .iaload, 1, none), (1054, .aload_n 0, 1, none), (1055, .iload_n 3, 1, none), (1056, .iconst 2, 1, none), (1057, .iadd, 1, none), (1058, .iaload, 1, none), (1059, .aload_n 0, 1, none), (1060, .iload_n 3, 1, none), (1061, .iconst 3, 1, none), (1062, .iadd, 1, none), (1063, .iaload, 1, none), (1064, .invokevirtual 99, 3, none), (1067, .if_icmp .eq 445, 3, none), (1070, .iconst 0, 1, none), (1071, .ireturn, 1, none), (1072, .aload_n 1, 1, some [true, true, true, true]), (1073, .aload_n 0, 1, none), (1074, .iload_n 3, 1, none), (1075, .iconst 1, 1, none), (1076, .iadd, 1, none), (1077, .iaload, 1, none), (1078, .aload_n 0, 1, none), (1079, .iload_n 3, 1, none), (1080, .iconst 2, 1, none), (1081, .iadd, 1, none), (1082, .iaload, 1, none), (1083, .invokevirtual 100, 3, none), (1086, .aload_n 2, 1, none), (1087, .aload_n 0, 1, none), (1088, .iload_n 3, 1, none), (1089, .iconst 1, 1, none), (1090, .iadd, 1, none), (1091, .iaload, 1, none), (1092, .aload_n 0, 1, none), (1093, .iload_n 3, 1, none), (1094, .iconst 2, 1, none), (1095, .iadd, 1, none), (1096, .iaload, 1, none), (1097, .invokevirtual 103, 3, none), (1100, .if_icmp .eq 412, 3, none), (1103, .iconst 0, 1, none), (1104, .ireturn, 1, none), (1105, .aload_n 1, 1, some [true, true, true, true]), (1106, .aload_n 0, 1, none), (1107, .iload_n 3, 1, none), (1108, .iconst 1, 1, none), (1109, .iadd, 1, none), (1110, .iaload, 1, none), (1111, .aload_n 0, 1, none), (1112, .iload_n 3, 1, none), (1113, .iconst 2, 1, none), (1114, .iadd, 1, none), (1115, .iaload, 1, none), (1116, .aload_n 0, 1, none), (1117, .iload_n 3, 1, none), (1118, .iconst 3, 1, none), (1119, .iadd, 1, none), (1120, .iaload, 1, none), (1121, .aload_n 0, 1, none), (1122, .iload_n 3, 1, none), (1123, .iconst 4, 1, none), (1124, .iadd, 1, none), (1125, .iaload, 1, none), (1126, .invokevirtual 104, 3, none), (1129, .aload_n 2, 1, none), (1130, .aload_n 0, 1, none), (1131, .iload_n 3, 1, none), (1132, .iconst 1, 1, none), (1133, .iadd, 1, none), (1134, .iaload, 1, none), (1135, .aload_n 0, 1, none), (1136, .iload_n 3, 1, none), (1137, .iconst 2, 1, none), (1138, .iadd, 1, none), (1139, .iaload, 1, none), (1140, .aload_n 0, 1, none), (1141, .iload_n 3, 1, none), (1142, .iconst 3, 1, none), (1143, .iadd, 1, none), (1144, .iaload, 1, none), (1145, .aload_n 0, 1, none), (1146, .iload_n 3, 1, none), (1147, .iconst 4, 1, none), (1148, .iadd, 1, none), (1149, .iaload, 1, none), (1150, .invokevirtual 107, 3, none), (1153, .if_icmp .eq 359, 3, none), (1156, .iconst 0, 1, none), (1157, .ireturn, 1, none), (1158, .aload_n 1, 1, some [true, true, true, true]), (1159, .aload_n 0, 1, none), (1160, .iload_n 3, 1, none), (1161, .iconst 1, 1, none), (1162, .iadd, 1, none), (1163, .iaload, 1, none), (1164, .aload_n 0, 1, none), (1165, .iload_n 3, 1, none), (1166, .iconst 2, 1, none), (1167, .iadd, 1, none), (1168, .iaload, 1, none), (1169, .aload_n 0, 1, none), (1170, .iload_n 3, 1, none), (1171, .iconst 3, 1, none), (1172, .iadd, 1, none), (1173, .iaload, 1, none), (1174, .invokevirtual 108, 3, none), (1177, .aload_n 2, 1, none), (1178, .aload_n 0, 1, none), (1179, .iload_n 3, 1, none), (1180, .iconst 1, 1, none), (1181, .iadd, 1, none), (1182, .iaload, 1, none), (1183, .aload_n 0, 1, none), (1184, .iload_n 3, 1, none), (1185, .iconst 2, 1, none), (1186, .iadd, 1, none), (1187, .iaload, 1, none), (1188, .aload_n 0, 1, none), (1189, .iload_n 3, 1, none), (1190, .iconst 3, 1, none), (1191, .iadd, 1, none), (1192, .iaload, 1, none), (1193, .invokevirtual 111, 3, none), (1196, .if_icmp .eq 316, 3, none), (1199, .iconst 0, 1, none), (1200, .ireturn, 1, none), (1201, .aload_n 1, 1, some [true, true, true, true]), (1202, .aload_n 0, 1, none), (1203, .iload_n 3, 1, none), (1204, .iconst 1, 1, none), (1205, .iadd, 1, none), (1206, .iaload, 1, none), (1207, .aload_n 0, 1, none), (1208, .iload_n 3, 1, none), (1209, .iconst 2, 1, none), (1210, .iadd, 1, none), (1211, .iaload, 1, none), (1212, .aload_n 0, 1, none), (1213, .iload_n 3, 1, none), (1214, .iconst 3, 1, none), (1215, .iadd, 1, none), (1216, .iaload, 1, none), (1217, .invokevirtual 112, 3, none), (1220, .aload_n 2, 1, none), (1221, .aload_n 0, 1, none), (1222, .iload_n 3, 1, none), (1223, .iconst 1, 1, none), (1224, .iadd, 1, none), (1225, .iaload, 1, none), (1226, .aload_n 0, 1, none), (1227, .iload_n 3, 1, none), (1228, .iconst 2, 1, none), (1229, .iadd, 1, none), (1230, .iaload, 1, none), (1231, .aload_n 0, 1, none), (1232, .iload_n 3, 1, none), (1233, .iconst 3, 1, none), (1234, .iadd, 1, none), (1235, .iaload, 1, none), (1236, .invokevirtual 115, 3, none), (1239, .if_icmp .eq 273, 3, none), (1242, .iconst 0, 1, none), (1243, .ireturn, 1, none), (1244, .aload_n 1, 1, some [true, true, true, true]), (1245, .aload_n 0, 1, none), (1246, .iload_n 3, 1, none), (1247, .iconst 1, 1, none), (1248, .iadd, 1, none), (1249, .iaload, 1, none), (1250, .aload_n 0, 1, none), (1251, .iload_n 3, 1, none), (1252, .iconst 2, 1, none), (1253, .iadd, 1, none), (1254, .iaload, 1, none), (1255, .aload_n 0, 1, none), (1256, .iload_n 3, 1, none), (1257, .iconst 3, 1, none), (1258, .iadd, 1, none), (1259, .iaload, 1, none), (1260, .aload_n 0, 1, none), (1261, .iload_n 3, 1, none), (1262, .iconst 4, 1, none), (1263, .iadd, 1, none), (1264, .iaload, 1, none), (1265, .ifCond .eq 7, 3, none), (1268, .iconst 1, 1, none), (1269, .goto 4, 3, none), (1272, .iconst 0, 1, some [true, true, true, true]), (1273, .invokevirtual 116, 3, some [true, true, true, true]), (1276, .aload_n 2, 1, none), (1277, .aload_n 0, 1, none), (1278, .iload_n 3, 1, none), (1279, .iconst 1, 1, none), (1280, .iadd, 1, none), (1281, .iaload, 1, none), (1282, .aload_n 0, 1, none), (1283, .iload_n 3, 1, none), (1284, .iconst 2, 1, none), (1285, .iadd, 1, none), (1286, .iaload, 1, none), (1287, .aload_n 0, 1, none), (1288, .iload_n 3, 1, none), (1289, .iconst 3, 1, none), (1290, .iadd, 1, none), (1291, .iaload, 1, none), (1292, .aload_n 0, 1, none), (1293, .iload_n 3, 1, none), (1294, .iconst 4, 1, none), (1295, .iadd, 1, none), (1296, .iaload, 1, none), (1297, .ifCond .eq 7, 3, none), (1300, .iconst 1, 1, none), (1301, .goto 4, 3, none), (1304, .iconst 0, 1, some [true, true, true, true]), (1305, .invokevirtual 120, 3, some [true, true, true, true]), (1308, .if_icmp .eq 204, 3, none), (1311, .iconst 0, 1, none), (1312, .ireturn, 1, none), (1313, .aload_n 1, 1, some [true, true, true, true]), (1314, .aload_n 0, 1, none), (1315, .iload_n 3, 1, none), (1316, .iconst 1, 1, none), (1317, .iadd, 1, none), (1318, .iaload, 1, none), (1319, .aload_n 0, 1, none), (1320, .iload_n 3, 1, none), (1321, .iconst 2, 1, none), (1322, .iadd, 1, none), (1323, .iaload, 1, none), (1324, .aload_n 0, 1, none), (1325, .iload_n 3, 1, none), (1326, .iconst 3, 1, none), (1327, .iadd, 1, none), (1328, .iaload, 1, none), (1329, .ifCond .eq 7, 3, none), (1332, .iconst 1, 1, none), (1333, .goto 4, 3, none), (1336, .iconst 0, 1, some [true, true, true, true]), (1337, .invokevirtual 121, 3, some [true, true, true, true]), (1340, .aload_n 2, 1, none), (1341, .aload_n 0, 1, none), (1342, .iload_n 3, 1, none), (1343, .iconst 1, 1, none), (1344, .iadd, 1, none), (1345, .iaload, 1, none), (1346, .aload_n 0, 1, none), (1347, .iload_n 3, 1, none), (1348, .iconst 2, 1, none), (1349, .iadd, 1, none), (1350, .iaload, 1, none), (1351, .aload_n 0, 1, none), (1352, .iload_n 3, 1, none), (1353, .iconst 3, 1, none), (1354, .iadd, 1, none), (1355, .iaload, 1, none), (1356, .ifCond .eq 7, 3, none), (1359, .iconst 1, 1, none), (1360, .goto 4, 3, none), (1363, .iconst 0, 1, some [true, true, true, true]), (1364, .invokevirtual 124, 3, some [true, true, true, true]), (1367, .lcmp, 1, none), (1368, .ifCond .eq 144, 3, none), (1371, .iconst 0, 1, none), (1372, .ireturn, 1, none), (1373, .aload_n 1, 1, some [true, true, true, true]), (1374, .aload_n 0, 1, none), (1375, .iload_n 3, 1, none), (1376, .iconst 1, 1, none), (1377, .iadd, 1, none), (1378, .iaload, 1, none), (1379, .aload_n 0, 1, none), (1380, .iload_n 3, 1, none), (1381, .iconst 2, 1, none), (1382, .iadd, 1, none), (1383, .iaload, 1, none), (1384, .aload_n 0, 1, none), (1385, .iload_n 3, 1, none), (1386, .iconst 3, 1, none), (1387, .iadd, 1, none), (1388, .iaload, 1, none), (1389, .aload_n 0, 1, none), (1390, .iload_n 3, 1, none), (1391, .iconst 4, 1, none), (1392, .iadd, 1, none), (1393, .iaload, 1, none), (1394, .ifCond .eq 7, 3, none), (1397, .iconst 1, 1, none), (1398, .goto 4, 3, none), (1401, .iconst 0, 1, some [true, true, true, true]), (1402, .invokevirtual 125, 3, some [true, true, true, true]), (1405, .aload_n 2, 1, none), (1406, .aload_n 0, 1, none), (1407, .iload_n 3, 1, none), (1408, .iconst 1, 1, none), (1409, .iadd, 1, none), (1410, .iaload, 1, none), (1411, .aload_n 0, 1, none), (1412, .iload_n 3, 1, none), (1413, .iconst 2, 1, none), (1414, .iadd, 1, none), (1415, .iaload, 1, none), (1416, .aload_n 0, 1, none), (1417, .iload_n 3, 1, none), (1418, .iconst 3, 1, none), (1419, .iadd, 1, none), (1420, .iaload, 1, none), (1421, .aload_n 0, 1, none), (1422, .iload_n 3, 1, none), (1423, .iconst 4, 1, none), (1424, .iadd, 1, none), (1425, .iaload, 1, none), (1426, .ifCond .eq 7, 3, none), (1429, .iconst 1, 1, none), (1430, .goto 4, 3, none), (1433, .iconst 0, 1, some [true, true, true, true]), (1434, .invokevirtual 128, 3, some [true, true, true, true]), (1437, .lcmp, 1, none), (1438, .ifCond .eq 74, 3, none), (1441, .iconst 0, 1, none), (1442, .ireturn, 1, none), (1443, .aload_n 1, 1, some [true, true, true, true]), (1444, .aload_n 0, 1, none), (1445, .iload_n 3, 1, none), (1446, .iconst 1, 1, none), (1447, .iadd, 1, none), (1448, .iaload, 1, none), (1449, .invokevirtual 129, 3, none), (1452, .aload_n 2, 1, none), (1453, .aload_n 0, 1, none), (1454, .iload_n 3, 1, none), (1455, .iconst 1, 1, none), (1456, .iadd, 1, none), (1457, .iaload, 1, none), (1458, .invokevirtual 132, 3, none), (1461, .if_icmp .eq 51, 3, none), (1464, .iconst 0, 1, none), (1465, .ireturn, 1, none), (1466, .aload_n 1, 1, some [true, true, true, true]), (1467, .aload_n 0, 1, none), (1468, .iload_n 3, 1, none), (1469, .iconst 1, 1, none), (1470, .iadd, 1, none), (1471, .iaload, 1, none), (1472, .invokevirtual 133, 3, none), (1475, .aload_n 2, 1, none), (1476, .aload_n 0, 1, none), (1477, .iload_n 3, 1, none), (1478, .iconst 1, 1, none), (1479, .iadd, 1, none), (1480, .iaload, 1, none), (1481, .invokevirtual 137, 3, none), (1484, .if_icmp .eq 28, 3, none), (1487, .iconst 0, 1, none), (1488, .ireturn, 1, none), (1489, .aload_n 1, 1, some [true, true, true, true]), (1490, .aload_n 0, 1, none), (1491, .iload_n 3, 1, none), (1492, .iconst 1, 1, none), (1493, .iadd, 1, none), (1494, .iaload, 1, none), (1495, .invokevirtual 138, 3, none), (1498, .aload_n 2, 1, none), (1499, .aload_n 0, 1, none), (1500, .iload_n 3, 1, none), (1501, .iconst 1, 1, none), (1502, .iadd, 1, none), (1503, .iaload, 1, none), (1504, .invokevirtual 141, 3, none), (1507, .if_icmp .eq 5, 3, none), (1510, .iconst 0, 1, none), (1511, .ireturn, 1, none), (1512, .iinc 3 6, 3, some [true, true, true, true]), (1515, .goto (-1497), 3, none), (1518, .iconst 1, 1, some [false, false, false, false]), (1519, .ireturn, 1, none)]
def mi_276 : PI := (15, 4, 2, 1, 0, 10, 245, cd_276)
def pm_T : List PI := [mi_0, mi_1, mi_2, mi_3, mi_4, mi_5, mi_6, mi_7, mi_8, mi_9, mi_10, mi_11, mi_12, mi_13, mi_14, mi_15, mi_16, mi_17, mi_18, mi_19, mi_20, mi_21, mi_22, mi_23, mi_24, mi_25, mi_26, mi_27, mi_28, mi_29, mi_30, mi_31, mi_32, mi_33, mi_34, mi_35, mi_36, mi_37, mi_38, mi_39, mi_40, mi_41, mi_42, mi_43, mi_44, mi_45, mi_46, mi_47, mi_48, mi_49, mi_50, mi_51, mi_52, mi_53, mi_54, mi_55, mi_56, mi_57, mi_58, mi_59, mi_60, mi_61, mi_62, mi_63, mi_64, mi_65, mi_66, mi_67, mi_68, mi_69, mi_70, mi_71, mi_72, mi_73, mi_74, mi_75, mi_76, mi_77, mi_78, mi_79, mi_80, mi_81, mi_82, mi_83, mi_84, mi_85, mi_86, mi_87, mi_88, mi_89, mi_90, mi_91, mi_92, mi_93, mi_94, mi_95, mi_96, mi_97, mi_98, mi_99, mi_100, mi_101, mi_102, mi_103, mi_104, mi_105, mi_106, mi_107, mi_108, mi_109, mi_110, mi_111, mi_112, mi_113, mi_114, mi_115, mi_116, mi_117, mi_118, mi_119, mi_120, mi_121, mi_122, mi_123, mi_124, mi_125, mi_126, mi_127, mi_128, mi_129, mi_130, mi_131, mi_132, mi_133, mi_134, mi_135, mi_136, mi_137, mi_138, mi_139, mi_140, mi_141, mi_142, mi_143, mi_144, mi_145, mi_146, mi_147, mi_148, mi_149, mi_150, mi_151, mi_152, mi_153, mi_154, mi_155, mi_156, mi_157, mi_158, mi_159, mi_160, mi_161, mi_162, mi_163, mi_164, mi_165, mi_166, mi_167, mi_168, mi_169, mi_170, mi_171, mi_172, mi_173, mi_174, mi_175, mi_176, mi_177, mi_178, mi_179, mi_180, mi_181, mi_182, mi_183, mi_184, mi_185, mi_186, mi_187, mi_188, mi_189, mi_190, mi_191, mi_192, mi_193, mi_194, mi_195, mi_196, mi_197, mi_198, mi_199, mi_200, mi_201, mi_202, mi_203, mi_204, mi_205, mi_206, mi_207, mi_208, mi_209, mi_210, mi_211, mi_212, mi_213, mi_214, mi_215, mi_216, mi_217, mi_218, mi_219, mi_220, mi_221, mi_222, mi_223, mi_224, mi_225, mi_226, mi_227, mi_228, mi_229, mi_230, mi_231, mi_232, mi_233, mi_234, mi_235, mi_236, mi_237, mi_238, mi_239, mi_240, mi_241, mi_242, mi_243, mi_244, mi_245, mi_246, mi_247, mi_248, mi_249, mi_250, mi_251, mi_252, mi_253, mi_254, mi_255, mi_256, mi_257, mi_258, mi_259, mi_260, mi_261, mi_262, mi_263, mi_264, mi_265, mi_266, mi_267, mi_268, mi_269, mi_270, mi_271, mi_272, mi_273, mi_274, mi_275, mi_276]
/-- 0 int, 1 long, 2 boolean, 3 a reference -/
def pm_ft : List (List Nat) := [[0, 0, 0, 0, 1, 0, 3, 3, 0, 3, 3, 3, 3, 3, 3, 3], [3, 0, 0, 0, 0, 0], [0, 3, 0, 0, 0, 3, 3], [0, 3, 3], [3, 3, 3, 0, 0, 3, 0, 0, 0, 0, 0, 0], [1, 1, 1, 1, 1, 0, 3], [3, 0, 0, 0, 3, 3, 3, 3], [3, 3, 3, 3, 3, 3, 3], [3, 3, 0, 0, 0, 0, 0, 0, 2, 0, 0, 0, 3, 0, 0, 0, 0, 3, 3, 0, 0, 3, 0, 0, 0, 0, 0, 3, 3, 3, 0, 0, 3, 3, 1, 1, 0]]
/-- where a reference field leads: (tag, a, b): number b (a = 0), or the own number (a = 1), of that tag -/
def pm_rt : List (List (Nat × Nat × Nat)) := [[(0, 0, 0), (0, 0, 0), (0, 0, 0), (0, 0, 0), (0, 0, 0), (0, 0, 0), (10, 1, 0), (11, 1, 0), (0, 0, 0), (12, 1, 0), (13, 1, 0), (14, 1, 0), (15, 1, 0), (16, 1, 0), (17, 1, 0), (18, 1, 0)], [(0, 0, 9), (0, 0, 0), (0, 0, 0), (0, 0, 0), (0, 0, 0), (0, 0, 0)], [(0, 0, 0), (19, 1, 0), (0, 0, 0), (0, 0, 0), (0, 0, 0), (20, 1, 0), (21, 1, 0)], [(0, 0, 0), (22, 1, 0), (23, 1, 0)], [(0, 0, 8), (3, 0, 8), (2, 0, 8), (0, 0, 0), (0, 0, 0), (24, 1, 0), (0, 0, 0), (0, 0, 0), (0, 0, 0), (0, 0, 0), (0, 0, 0), (0, 0, 0)], [(0, 0, 0), (0, 0, 0), (0, 0, 0), (0, 0, 0), (0, 0, 0), (0, 0, 0), (25, 1, 0)], [(26, 1, 0), (0, 0, 0), (0, 0, 0), (0, 0, 0), (27, 1, 0), (28, 1, 0), (29, 1, 0), (30, 1, 0)], [(6, 0, 0), (31, 1, 0), (32, 1, 0), (4, 0, 0), (1, 0, 0), (0, 0, 10), (5, 0, 0)], [(33, 1, 0), (34, 1, 0), (0, 0, 0), (0, 0, 0), (0, 0, 0), (0, 0, 0), (0, 0, 0), (0, 0, 0), (0, 0, 0), (0, 0, 0), (0, 0, 0), (0, 0, 0), (35, 1, 0), (0, 0, 0), (0, 0, 0), (0, 0, 0), (0, 0, 0), (36, 1, 0), (37, 1, 0), (0, 0, 0), (0, 0, 0), (38, 1, 0), (0, 0, 0), (0, 0, 0), (0, 0, 0), (0, 0, 0), (0, 0, 0), (39, 1, 0), (40, 1, 0), (41, 1, 0), (0, 0, 0), (0, 0, 0), (42, 1, 0), (43, 1, 0), (0, 0, 0), (0, 0, 0), (0, 0, 0)]]
/-- the arrays, tags from 10 on: (0 int, 1 long, 2 boolean, 3 reference; length) -/
def pm_at : List (Nat × Nat) := [(0, 4), (0, 4), (0, 4), (0, 4), (0, 4), (0, 4), (0, 16), (0, 16), (0, 16), (0, 6), (0, 10), (0, 10), (0, 40), (0, 120), (0, 4), (1, 64), (0, 600), (0, 3), (3, 2), (3, 2), (3, 2), (3, 3), (2, 3), (0, 5104), (2, 3), (0, 161), (0, 48), (0, 4), (0, 4), (0, 64), (2, 64), (2, 64), (2, 64), (2, 64)]
-- 10 IllLight$Coast.guardSpot; 11 IllLight$Coast.guardRange; 12 IllLight$Coast.spot; 13 IllLight$Coast.cargo; 14 IllLight$Coast.children; 15 IllLight$Coast.men; 16 IllLight$Coast.kind; 17 IllLight$Coast.first; 18 IllLight$Coast.second; 19 IllLight$Log.odds; 20 IllLight$Log.lit; 21 IllLight$Log.hour; 22 IllLight$Night.kind; 23 IllLight$Night.numbers; 24 IllLight$Reader.numbers; 25 IllLight$Sea.seen; 26 IllLight$Told.tape; 27 IllLight$Told.held; 28 IllLight$Told.coasts; 29 IllLight$Told.nights; 30 IllLight$Told.logs; 31 IllLight.images; 32 IllLight.kept; 33 IllLightModel.all; 34 IllLightModel.has; 35 IllLightModel.read; 36 IllLightModel.men; 37 IllLightModel.cargo; 38 IllLightModel.cells; 39 IllLightModel.first; 40 IllLightModel.now; 41 IllLightModel.then; 42 IllLightModel.been; 43 IllLightModel.beenThen
/-- the arrays of references: (tag, a, b): at j number a * i + b + j of that tag -/
def pm_ra : List (Nat × Nat × Nat) := [(0, 0, 0), (0, 0, 0), (0, 0, 0), (0, 0, 0), (0, 0, 0), (0, 0, 0), (0, 0, 0), (0, 0, 0), (0, 0, 0), (0, 0, 0), (0, 0, 0), (0, 0, 0), (0, 0, 0), (0, 0, 0), (0, 0, 0), (0, 0, 0), (0, 0, 0), (0, 0, 0), (0, 2, 0), (3, 2, 0), (2, 2, 0), (6, 0, 1), (0, 0, 0), (0, 0, 0), (0, 0, 0), (0, 0, 0), (0, 0, 0), (0, 0, 0), (0, 0, 0), (0, 0, 0), (0, 0, 0), (0, 0, 0), (0, 0, 0), (0, 0, 0)]
def pm_F : List (List (Nat × Nat × Nat)) := [[(9, 0, 0), (15, 0, 1), (18, 0, 3), (21, 0, 6), (25, 0, 7), (28, 0, 9), (31, 0, 10), (34, 0, 11), (37, 0, 12), (40, 0, 13), (43, 0, 14), (46, 0, 15), (49, 0, 2), (52, 0, 4), (56, 0, 5), (59, 0, 8)], [(12, 1, 0), (22, 1, 1), (26, 1, 2), (29, 1, 3), (32, 1, 4), (38, 3, 0), (43, 3, 1), (47, 3, 2), (58, 1, 5), (61, 0, 8), (90, 0, 9), (93, 0, 1), (96, 0, 0), (99, 0, 10), (110, 0, 4)], [(9, 2, 1), (15, 2, 2), (19, 2, 5), (22, 2, 6), (25, 2, 0), (28, 2, 3), (31, 2, 4)], [(9, 3, 1), (15, 3, 2), (18, 3, 0)], [(12, 4, 0), (21, 4, 1), (28, 4, 2), (32, 4, 5), (43, 4, 6), (51, 4, 3), (54, 4, 7), (57, 4, 4), (67, 3, 0), (71, 4, 8), (74, 4, 9), (77, 4, 10), (80, 4, 11), (181, 0, 8), (184, 0, 5), (193, 0, 12), (199, 2, 0), (201, 2, 4), (227, 0, 0), (230, 0, 1), (233, 0, 3), (235, 0, 2), (237, 0, 4), (249, 2, 2), (250, 2, 3)], [(15, 0, 4), (48, 0, 1)], [(9, 5, 6), (29, 5, 0), (37, 5, 1), (40, 0, 4), (43, 5, 2), (50, 0, 9), (54, 5, 3), (57, 5, 4), (84, 5, 5)], [(9, 6, 0), (15, 6, 3), (19, 6, 4), (24, 6, 5), (30, 6, 6), (36, 6, 7), (43, 6, 1), (49, 4, 0), (59, 4, 1), (66, 4, 2), (85, 6, 2)], [(10, 7, 0), (16, 7, 1), (20, 7, 2), (27, 7, 3), (34, 7, 4), (41, 7, 5), (48, 7, 6), (52, 6, 1), (60, 6, 2), (63, 6, 3), (70, 6, 0), (78, 4, 3), (79, 4, 4), (95, 0, 13), (98, 0, 14), (101, 0, 15), (108, 3, 0), (161, 0, 9), (241, 0, 8), (270, 0, 4), (294, 6, 5), (298, 6, 6), (302, 6, 7), (306, 0, 12), (324, 0, 10)], [(7, 8, 0), (13, 8, 1), (17, 8, 12), (20, 8, 17), (23, 8, 18), (26, 8, 21), (29, 8, 27), (32, 8, 28), (35, 8, 29), (38, 8, 32), (41, 8, 33), (44, 8, 2), (58, 8, 3), (65, 8, 4), (68, 8, 5), (83, 8, 7), (89, 8, 6), (92, 8, 8), (114, 8, 9), (117, 8, 10), (124, 8, 11), (178, 8, 13), (181, 8, 14), (184, 8, 15), (187, 8, 16), (199, 8, 19), (221, 8, 20), (227, 8, 22), (230, 8, 23), (233, 8, 24), (236, 8, 25), (239, 8, 26), (346, 8, 30), (361, 8, 31), (384, 8, 35), (388, 8, 34), (399, 8, 36)], [], [], [(9, 60, 0), (15, 60, 1)], [], [], []]
def pm_G : List (List (Nat × Nat)) := [[], [], [], [], [(97, 1), (108, 2), (118, 0)], [], [], [], [], [], [], [], [(38, 3), (1053, 4)], [], [], []]
def pm_L : List (List (Nat × Nat)) := [[(62, 1000), (68, 5), (72, 7), (76, 10), (80, 93), (86, 9), (90, 13), (94, 14), (97, 8), (100, 15), (104, 1002), (109, 16), (112, 17), (115, 18), (119, 6), (122, 1001), (125, 24)], [(18, 1), (35, 29), (50, 37), (54, 33), (64, 32), (69, 5), (73, 34), (76, 35), (80, 27), (84, 6), (87, 36), (102, 38), (106, 11), (114, 39), (117, 17), (121, 18), (124, 24), (127, 25), (130, 41), (133, 42), (136, 9), (139, 16), (142, 15)], [(34, 1000), (40, 49), (44, 47), (48, 267), (54, 51), (58, 52), (61, 50), (65, 53), (68, 268), (73, 58), (77, 1002), (82, 60)], [(22, 1000)], [(36, 65), (39, 67), (47, 70), (60, 83), (64, 0), (70, 43), (83, 68), (87, 69), (90, 71), (94, 78), (100, 74), (104, 75), (111, 66), (115, 79), (121, 73), (125, 72), (129, 269), (135, 270), (187, 76), (190, 5), (196, 77), (204, 61), (208, 82), (211, 80), (214, 81), (217, 1002), (223, 4), (241, 2), (244, 3), (247, 45), (252, 46)], [(9, 10), (23, 268), (29, 1001), (35, 84), (41, 85), (45, 86), (52, 87), (56, 91), (60, 1003)], [(19, 92), (23, 10), (32, 11), (46, 5), (60, 95), (64, 96), (68, 268), (74, 7), (78, 1003), (87, 8), (91, 93)], [(46, 104), (55, 1), (63, 62), (70, 44), (73, 1002), (79, 1000)], [(56, 105), (66, 104), (74, 64), (80, 106), (84, 138), (88, 12), (91, 6), (104, 139), (113, 63), (116, 5), (120, 141), (123, 16), (126, 17), (129, 18), (132, 15), (136, 30), (140, 40), (141, 144), (145, 8), (148, 94), (152, 20), (155, 96), (158, 142), (164, 98), (168, 145), (172, 146), (176, 147), (179, 148), (182, 149), (185, 143), (188, 90), (194, 88), (197, 89), (204, 151), (208, 140), (212, 48), (215, 54), (219, 268), (225, 55), (228, 57), (231, 56), (235, 47), (237, 59), (244, 31), (247, 19), (250, 150), (253, 21), (256, 267), (260, 26), (263, 99), (266, 100), (274, 101), (277, 102), (281, 103), (284, 23), (287, 22), (290, 107), (309, 1), (312, 28), (316, 97), (320, 27), (327, 1002), (332, 152)], [(48, 159), (54, 160), (61, 156), (71, 157), (79, 161), (86, 158), (96, 163), (99, 153), (103, 164), (107, 162), (110, 165), (120, 168), (127, 171), (130, 166), (133, 169), (137, 170), (140, 172), (143, 167), (146, 175), (149, 176), (153, 180), (157, 173), (160, 174), (163, 177), (166, 179), (169, 178), (172, 183), (175, 182), (190, 185), (193, 187), (196, 188), (202, 192), (205, 193), (209, 194), (212, 195), (215, 191), (218, 196), (224, 198), (242, 203), (245, 205), (248, 204), (251, 201), (254, 206), (257, 208), (260, 207), (263, 209), (266, 211), (269, 210), (272, 212), (275, 202), (278, 200), (281, 213), (285, 214), (288, 216), (291, 218), (294, 186), (297, 219), (301, 223), (304, 222), (307, 224), (310, 226), (313, 227), (316, 228), (319, 225), (322, 231), (325, 230), (328, 233), (331, 232), (338, 236), (342, 235), (349, 238), (352, 240), (355, 241), (358, 242), (364, 243), (367, 245), (371, 247), (374, 251), (378, 254), (381, 253), (391, 258), (395, 257), (403, 261), (406, 262)], [], [], [(335, 271), (492, 272), (495, 274), (1059, 275)], [(9, 273)], [], [(13, 108), (17, 154), (18, 109), (22, 155), (23, 110), (27, 181), (28, 111), (31, 184), (32, 112), (35, 189), (36, 113), (40, 190), (41, 114), (45, 199), (46, 115), (49, 197), (50, 116), (53, 215), (54, 117), (57, 217), (58, 118), (61, 220), (62, 119), (65, 221), (66, 120), (69, 229), (70, 121), (73, 234), (74, 122), (78, 237), (79, 123), (82, 239), (83, 124), (86, 244), (87, 125), (91, 246), (92, 126), (95, 263), (96, 127), (99, 248), (100, 128), (103, 249), (104, 129), (107, 250), (108, 130), (111, 252), (112, 131), (115, 255), (116, 132), (120, 256), (121, 133), (124, 259), (125, 134), (128, 260), (129, 135), (132, 264), (133, 136), (137, 265), (138, 137), (141, 266)]]
def pm_CI : List (List (Nat × Int32)) := [[], [(68, 1103515245)], [], [], [], [], [], [], [(167, 16777215)], [(402, 1103515245)], [(265, 1431655765), (266, 858993459), (267, 252645135)], [], [], [], [], []]
def pm_CL : List (List (Nat × Int64)) := [[], [], [], [], [], [(19, (-1)), (21, 255)], [(15, 9187201950435737471), (17, (-72340172838076674)), (35, (-1))], [], [(200, (-1)), (202, 10)], [(52, 1048576), (75, 32), (77, 96), (334, (-1)), (336, 10)], [], [(314, 6148914691236517205), (316, 3689348814741910323), (318, 1085102592571150095)], [], [], [], []]
def pm_CS : List (List (Nat × Nat)) := [[], [], [], [], [(139, 0), (141, 1), (143, 2), (145, 3), (147, 4), (149, 5), (151, 6), (153, 7), (155, 8), (157, 9), (159, 10), (161, 11), (163, 12), (165, 13), (167, 14), (169, 15), (171, 16), (173, 17), (175, 18), (177, 19), (179, 20)], [], [], [], [], [], [], [], [], [], [], []]
def pm_RT : List Nat := [0, 0, 0, 0, 0, 0, 0, 0, 0, 0, 0, 0, 0, 0, 0, 0, 0, 0, 0, 0, 0, 0, 0, 0, 0, 0, 0, 0, 0, 0, 0, 0, 0, 0, 0, 0, 0, 0, 0, 0, 0, 0, 0, 0, 0, 0, 0, 0, 0, 0, 0, 0, 0, 0, 0, 0, 0, 0, 0, 0, 0, 0, 0, 0, 0, 0, 0, 0, 0, 0, 0, 0, 0, 60, 0, 0, 0, 0, 0, 0, 0, 0, 0, 0, 0, 0, 0, 0, 0, 0, 0, 0, 0, 0, 0, 0, 0, 0, 0, 0, 0, 0, 0, 0, 0, 0, 0, 0, 0, 0, 0, 0, 0, 0, 0, 0, 0, 0, 0, 0, 0, 0, 0, 0, 0, 0, 0, 0, 0, 0, 0, 0, 0, 0, 0, 0, 0, 0, 0, 3, 2, 0, 0, 0, 0, 0, 0, 0, 0, 0, 0, 0, 0, 0, 0, 0, 0, 0, 0, 0, 0, 0, 0, 0, 0, 0, 0, 0, 0, 0, 0, 0, 0, 0, 0, 0, 0, 0, 0, 0, 0, 0, 0, 0, 0, 0, 0, 0, 0, 0, 0, 0, 0, 0, 0, 0, 0, 0, 0, 0, 0, 0, 0, 0, 0, 0, 0, 0, 0, 0, 0, 0, 0, 0, 0, 0, 0, 0, 0, 0, 0, 0, 0, 0, 0, 0, 0, 0, 0, 0, 0, 0, 0, 0, 0, 0, 0, 0, 0, 0, 0, 0, 0, 0, 0, 0, 0, 0, 0, 0, 0, 0, 0, 0, 0, 0, 0, 0, 0, 0, 0, 0, 0, 0, 0, 0, 0, 0, 0, 0, 0, 0, 0, 0, 0, 0, 0]
def pm_SL : List Nat := [4, 4, 4, 5, 4, 5, 5, 5, 4, 7, 6, 5, 2, 4, 5, 4, 3, 6, 3, 4, 0]
-- texts: 0 size, 1 lamp, 2 rock, 3 guard, 4 ship, 5 limit, 6 plain, 7 hired, 8 late, 9 divided, 10 asleep, 11 loyal, 12 go, 13 mean, 14 throw, 15 hour, 16 man, 17 errors, 18 lit, 19 dark, 20 
end
section
def pm_Y : List (MethodName × ByteArray × Option FieldType) := [
  (⟨"IllLight$Coast", "clear", "()V"⟩, prog_2_method_2_code, none),
  (⟨"IllLight$Coast", "copyFrom", "(LIllLight$Coast;)V"⟩, prog_2_method_3_code, none),
  (⟨"IllLight$Coast", "addGuard", "(II)V"⟩, prog_2_method_4_code, none),
  (⟨"IllLight$Coast", "addShip", "(III)V"⟩, prog_2_method_5_code, none),
  (⟨"IllLight$Coast", "addMan", "(III)V"⟩, prog_2_method_6_code, none),
  (⟨"IllLight$Coast", "hasShip", "(I)Z"⟩, prog_2_method_7_code, (some .boolean)),
  (⟨"IllLight$Coast", "hasMan", "(II)Z"⟩, prog_2_method_8_code, (some .boolean)),
  (⟨"IllLight$Coast", "cells", "()I"⟩, prog_2_method_9_code, (some .int)),
  (⟨"IllLight$Coast", "spotOf", "(I)I"⟩, prog_2_method_10_code, (some .int)),
  (⟨"IllLight$Coast", "cellOf", "(I)I"⟩, prog_2_method_11_code, (some .int)),
  (⟨"IllLight$Coast", "board", "()J"⟩, prog_2_method_12_code, (some .long)),
  (⟨"IllLight$Coast", "guarded", "()J"⟩, prog_2_method_13_code, (some .long)),
  (⟨"IllLight$Coast", "told", "(I)I"⟩, prog_2_method_14_code, (some .int)),
  (⟨"IllLight$Coast", "toldOfOne", "(II)I"⟩, prog_2_method_15_code, (some .int)),
  (⟨"IllLight$Coast", "toldOfRock", "(I)I"⟩, prog_2_method_16_code, (some .int)),
  (⟨"IllLight$Coast", "meant", "(III)I"⟩, prog_2_method_17_code, (some .int)),
  (⟨"IllLight$Coast", "harm", "(II)I"⟩, prog_2_method_18_code, (some .int)),
  (⟨"IllLight$Coast", "glow", "(II)I"⟩, prog_2_method_19_code, (some .int)),
  (⟨"IllLight$Coast", "isLit", "(II)Z"⟩, prog_2_method_20_code, (some .boolean)),
  (⟨"IllLight$Coast", "hoursOf", "(II)I"⟩, prog_2_method_21_code, (some .int)),
  (⟨"IllLight$Coast", "litHours", "(I)I"⟩, prog_2_method_22_code, (some .int)),
  (⟨"IllLight$Coast", "worstHour", "(I)I"⟩, prog_2_method_23_code, (some .int)),
  (⟨"IllLight$Coast", "mutineers", "(II)I"⟩, prog_2_method_24_code, (some .int)),
  (⟨"IllLight$Coast", "worstMan", "(II)I"⟩, prog_2_method_25_code, (some .int)),
  (⟨"IllLight$Coast", "side", "(I)I"⟩, prog_2_method_26_code, (some .int)),
  (⟨"IllLight$Coast", "fromLamp", "(I)I"⟩, prog_2_method_27_code, (some .int)),
  (⟨"IllLight$Coast", "shaded", "(I)I"⟩, prog_2_method_28_code, (some .int)),
  (⟨"IllLight$Coast", "makePlain", "(III)V"⟩, prog_2_method_29_code, none),
  (⟨"IllLight$Coast", "lull", "(II)V"⟩, prog_2_method_30_code, none),
  (⟨"IllLight$Course", "begin", "(LIllLight$Coast;)V"⟩, prog_3_method_2_code, none),
  (⟨"IllLight$Course", "follow", "(LIllLight$Coast;LIllLight$Night;I)I"⟩, prog_3_method_3_code, (some .int)),
  (⟨"IllLight$Course", "draw", "(LIllLight$Coast;II)V"⟩, prog_3_method_4_code, none),
  (⟨"IllLight$Course", "below", "(I)I"⟩, prog_3_method_5_code, (some .int)),
  (⟨"IllLight$Course", "act", "(IIII)Z"⟩, prog_3_method_6_code, (some .boolean)),
  (⟨"IllLight$Course", "isLost", "(I)Z"⟩, prog_3_method_7_code, (some .boolean)),
  (⟨"IllLight$Course", "sail", "(II)Z"⟩, prog_3_method_8_code, (some .boolean)),
  (⟨"IllLight$Course", "throwOut", "(I)Z"⟩, prog_3_method_9_code, (some .boolean)),
  (⟨"IllLight$Course", "pass", "()Z"⟩, prog_3_method_10_code, (some .boolean)),
  (⟨"IllLight$Course", "beam", "()I"⟩, prog_3_method_11_code, (some .int)),
  (⟨"IllLight$Course", "whoseLight", "(I)I"⟩, prog_3_method_12_code, (some .int)),
  (⟨"IllLight$Course", "told", "(I)I"⟩, prog_3_method_13_code, (some .int)),
  (⟨"IllLight$Course", "toldOfShip", "(II)I"⟩, prog_3_method_14_code, (some .int)),
  (⟨"IllLight$Course", "toldOfMan", "(II)I"⟩, prog_3_method_15_code, (some .int)),
  (⟨"IllLight$Log", "clear", "()V"⟩, prog_4_method_2_code, none),
  (⟨"IllLight$Log", "copyFrom", "(LIllLight$Log;)V"⟩, prog_4_method_3_code, none),
  (⟨"IllLight$Log", "addMan", "(I)V"⟩, prog_4_method_4_code, none),
  (⟨"IllLight$Log", "addFact", "(II)V"⟩, prog_4_method_5_code, none),
  (⟨"IllLight$Log", "hasMan", "(I)Z"⟩, prog_4_method_6_code, (some .boolean)),
  (⟨"IllLight$Log", "told", "(I)I"⟩, prog_4_method_7_code, (some .int)),
  (⟨"IllLight$Log", "toldOfOne", "(II)I"⟩, prog_4_method_8_code, (some .int)),
  (⟨"IllLight$Log", "sets", "()I"⟩, prog_4_method_9_code, (some .int)),
  (⟨"IllLight$Log", "shines", "(II)Z"⟩, prog_4_method_10_code, (some .boolean)),
  (⟨"IllLight$Log", "agrees", "(II)Z"⟩, prog_4_method_11_code, (some .boolean)),
  (⟨"IllLight$Log", "allAgree", "(I)Z"⟩, prog_4_method_12_code, (some .boolean)),
  (⟨"IllLight$Log", "fitting", "()J"⟩, prog_4_method_13_code, (some .long)),
  (⟨"IllLight$Log", "sure", "(J)I"⟩, prog_4_method_14_code, (some .int)),
  (⟨"IllLight$Log", "setAt", "(JI)I"⟩, prog_4_method_15_code, (some .int)),
  (⟨"IllLight$Log", "hourToAsk", "(J)I"⟩, prog_4_method_16_code, (some .int)),
  (⟨"IllLight$Log", "shiningAt", "(I)J"⟩, prog_4_method_17_code, (some .long)),
  (⟨"IllLight$Log", "weightOf", "(II)J"⟩, prog_4_method_18_code, (some .long)),
  (⟨"IllLight$Log", "weight", "(I)J"⟩, prog_4_method_19_code, (some .long)),
  (⟨"IllLight$Night", "add", "(IIII)V"⟩, prog_5_method_2_code, none),
  (⟨"IllLight$Night", "copyFrom", "(LIllLight$Night;)V"⟩, prog_5_method_3_code, none),
  (⟨"IllLight$Night", "told", "(II)I"⟩, prog_5_method_4_code, (some .int)),
  (⟨"IllLight$Reader", "read", "([III)V"⟩, prog_6_method_2_code, none),
  (⟨"IllLight$Reader", "begin", "()V"⟩, prog_6_method_3_code, none),
  (⟨"IllLight$Reader", "note", "(II)V"⟩, prog_6_method_4_code, none),
  (⟨"IllLight$Reader", "advance", "([II)V"⟩, prog_6_method_5_code, none),
  (⟨"IllLight$Reader", "isLetter", "(I)Z"⟩, prog_6_method_6_code, (some .boolean)),
  (⟨"IllLight$Reader", "isDigit", "(I)Z"⟩, prog_6_method_7_code, (some .boolean)),
  (⟨"IllLight$Reader", "readLine", "([III)Z"⟩, prog_6_method_8_code, (some .boolean)),
  (⟨"IllLight$Reader", "wordHere", "([II)I"⟩, prog_6_method_9_code, (some .int)),
  (⟨"IllLight$Reader", "isHere", "([ILjava/lang/String;)Z"⟩, prog_6_method_10_code, (some .boolean)),
  (⟨"IllLight$Reader", "nameOf", "(I)Ljava/lang/String;"⟩, prog_6_method_11_code, (some (.object "java/lang/String"))),
  (⟨"IllLight$Reader", "numberHere", "([I)I"⟩, prog_6_method_12_code, (some .int)),
  (⟨"IllLight$Reader", "least", "(I)I"⟩, prog_6_method_13_code, (some .int)),
  (⟨"IllLight$Reader", "isKind", "(I)Z"⟩, prog_6_method_14_code, (some .boolean)),
  (⟨"IllLight$Reader", "isDeed", "(I)Z"⟩, prog_6_method_15_code, (some .boolean)),
  (⟨"IllLight$Reader", "noteTooMany", "(I)V"⟩, prog_6_method_16_code, none),
  (⟨"IllLight$Reader", "tell", "(I)V"⟩, prog_6_method_17_code, none),
  (⟨"IllLight$Reader", "tellMan", "(I)V"⟩, prog_6_method_18_code, none),
  (⟨"IllLight$Reader", "tellCoast", "(I)V"⟩, prog_6_method_19_code, none),
  (⟨"IllLight$Reader", "tellLog", "(I)V"⟩, prog_6_method_20_code, none),
  (⟨"IllLight$Reader", "lookForWhatIsNotThere", "(I)V"⟩, prog_6_method_21_code, none),
  (⟨"IllLight$Rows", "prize", "(LIllLight$Coast;I)I"⟩, prog_7_method_2_code, (some .int)),
  (⟨"IllLight$Rows", "pirateWins", "(LIllLight$Coast;III)I"⟩, prog_7_method_3_code, (some .int)),
  (⟨"IllLight$Rows", "guardWins", "(LIllLight$Coast;III)I"⟩, prog_7_method_4_code, (some .int)),
  (⟨"IllLight$Rows", "isRest", "(LIllLight$Coast;III)Z"⟩, prog_7_method_5_code, (some .boolean)),
  (⟨"IllLight$Rows", "rests", "(LIllLight$Coast;I)I"⟩, prog_7_method_6_code, (some .int)),
  (⟨"IllLight$Rows", "restAt", "(LIllLight$Coast;II)I"⟩, prog_7_method_7_code, (some .int)),
  (⟨"IllLight$Rows", "safest", "(LIllLight$Coast;I)I"⟩, prog_7_method_8_code, (some .int)),
  (⟨"IllLight$Rows", "leastWon", "(LIllLight$Coast;II)I"⟩, prog_7_method_9_code, (some .int)),
  (⟨"IllLight$Sea", "spread", "(JJ)J"⟩, prog_8_method_2_code, (some .long)),
  (⟨"IllLight$Sea", "around", "(IIJ)J"⟩, prog_8_method_3_code, (some .long)),
  (⟨"IllLight$Sea", "chart", "(LIllLight$Coast;II)V"⟩, prog_8_method_4_code, none),
  (⟨"IllLight$Sea", "afterHour", "(JII)J"⟩, prog_8_method_5_code, (some .long)),
  (⟨"IllLight$Sea", "fewest", "(III)I"⟩, prog_8_method_6_code, (some .int)),
  (⟨"IllLight$Sea", "comes", "(III)Z"⟩, prog_8_method_7_code, (some .boolean)),
  (⟨"IllLight$Sea", "reached", "(II)I"⟩, prog_8_method_8_code, (some .int)),
  (⟨"IllLight$Sea", "thereAndBack", "(II)I"⟩, prog_8_method_9_code, (some .int)),
  (⟨"IllLight$Sea", "look", "(LIllLight$Coast;I)V"⟩, prog_8_method_10_code, none),
  (⟨"IllLight$Sea", "bestFor", "(J)I"⟩, prog_8_method_11_code, (some .int)),
  (⟨"IllLight$Sea", "bestPair", "()I"⟩, prog_8_method_12_code, (some .int)),
  (⟨"IllLight$Sea", "seenByBoth", "(I)I"⟩, prog_8_method_13_code, (some .int)),
  (⟨"IllLight$Told", "held", "(I)I"⟩, prog_9_method_2_code, (some .int)),
  (⟨"IllLight$Told", "put", "(I)V"⟩, prog_9_method_3_code, none),
  (⟨"IllLight$Told", "take", "(LIllLight$Reader;II)V"⟩, prog_9_method_4_code, none),
  (⟨"IllLight$Told", "copyFrom", "(LIllLight$Told;)V"⟩, prog_9_method_5_code, none),
  (⟨"IllLight", "feed", "(IIIII)I"⟩, prog_1_method_2_code, (some .int)),
  (⟨"IllLight", "end", "(I)I"⟩, prog_1_method_3_code, (some .int)),
  (⟨"IllLight", "text", "(II)I"⟩, prog_1_method_4_code, (some .int)),
  (⟨"IllLight", "fault", "(I)I"⟩, prog_1_method_5_code, (some .int)),
  (⟨"IllLight", "coast", "(II)I"⟩, prog_1_method_6_code, (some .int)),
  (⟨"IllLight", "man", "(IIII)I"⟩, prog_1_method_7_code, (some .int)),
  (⟨"IllLight", "deed", "(III)I"⟩, prog_1_method_8_code, (some .int)),
  (⟨"IllLight", "light", "(IIII)I"⟩, prog_1_method_9_code, (some .int)),
  (⟨"IllLight", "stop", "(II)I"⟩, prog_1_method_10_code, (some .int)),
  (⟨"IllLight", "state", "(IIII)I"⟩, prog_1_method_11_code, (some .int)),
  (⟨"IllLight", "way", "(III)I"⟩, prog_1_method_12_code, (some .int)),
  (⟨"IllLight", "free", "(IIII)I"⟩, prog_1_method_13_code, (some .int)),
  (⟨"IllLight", "helps", "(IIIII)I"⟩, prog_1_method_14_code, (some .int)),
  (⟨"IllLight", "rest", "(III)I"⟩, prog_1_method_15_code, (some .int)),
  (⟨"IllLight", "premium", "(IIIZ)J"⟩, prog_1_method_16_code, (some .long)),
  (⟨"IllLight", "log", "(II)I"⟩, prog_1_method_17_code, (some .int)),
  (⟨"IllLight", "fits", "(II)I"⟩, prog_1_method_18_code, (some .int)),
  (⟨"IllLight", "belief", "(IIZ)J"⟩, prog_1_method_19_code, (some .long)),
  (⟨"IllLight", "drawn", "(IIII)I"⟩, prog_1_method_20_code, (some .int)),
  (⟨"IllLight", "hours", "(III)I"⟩, prog_1_method_21_code, (some .int)),
  (⟨"IllLight", "shade", "(II)I"⟩, prog_1_method_22_code, (some .int)),
  (⟨"IllLight", "leaves", "(IIII)I"⟩, prog_1_method_23_code, (some .int)),
  (⟨"IllLight", "back", "(III)I"⟩, prog_1_method_24_code, (some .int)),
  (⟨"IllLight", "watch", "(III)I"⟩, prog_1_method_25_code, (some .int)),
  (⟨"IllLight", "mutiny", "(IIIZ)I"⟩, prog_1_method_26_code, (some .int)),
  (⟨"IllLight", "next", "(IIZ)J"⟩, prog_1_method_27_code, (some .long)),
  (⟨"IllLight", "both", "(IIIZ)J"⟩, prog_1_method_28_code, (some .long)),
  (⟨"IllLight", "count", "(I)I"⟩, prog_1_method_29_code, (some .int)),
  (⟨"IllLight", "image", "(I)Z"⟩, prog_1_method_30_code, (some .boolean)),
  (⟨"IllLight", "again", "(I)Z"⟩, prog_1_method_31_code, (some .boolean)),
  (⟨"IllLight", "coastAt", "(I)LIllLight$Coast;"⟩, prog_1_method_32_code, (some (.object "IllLight$Coast"))),
  (⟨"IllLight", "nightAt", "(I)LIllLight$Night;"⟩, prog_1_method_33_code, (some (.object "IllLight$Night"))),
  (⟨"IllLight", "logAt", "(I)LIllLight$Log;"⟩, prog_1_method_34_code, (some (.object "IllLight$Log"))),
  (⟨"IllLight", "isHour", "(I)Z"⟩, prog_1_method_35_code, (some .boolean)),
  (⟨"IllLight", "isLength", "(I)Z"⟩, prog_1_method_36_code, (some .boolean)),
  (⟨"IllLight", "isRange", "(I)Z"⟩, prog_1_method_37_code, (some .boolean)),
  (⟨"IllLight", "isVoyage", "(LIllLight$Coast;II)Z"⟩, prog_1_method_38_code, (some .boolean)),
  (⟨"IllLight", "fewestMen", "(LIllLight$Coast;IIZ)I"⟩, prog_1_method_39_code, (some .int)),
  (⟨"IllLight", "leastIll", "(LIllLight$Coast;II)I"⟩, prog_1_method_40_code, (some .int)),
  (⟨"IllLight", "leastThrown", "(LIllLight$Coast;II)I"⟩, prog_1_method_41_code, (some .int)),
  (⟨"IllLight", "hoursToLeave", "(LIllLight$Coast;II)I"⟩, prog_1_method_42_code, (some .int)),
  (⟨"IllLight", "firstOf", "(I)I"⟩, prog_1_method_43_code, (some .int)),
  (⟨"IllLight", "longestRow", "(I)I"⟩, prog_1_method_44_code, (some .int)),
  (⟨"IllLight", "leastTerms", "(JJZ)J"⟩, prog_1_method_45_code, (some .long)),
  (⟨"IllLight", "commonDivisor", "(JJ)J"⟩, prog_1_method_46_code, (some .long)),
  (⟨"IllLightModel", "isIn", "(III)Z"⟩, prog_11_method_2_code, (some .boolean)),
  (⟨"IllLightModel", "feed", "(IIIII)I"⟩, prog_11_method_3_code, (some .int)),
  (⟨"IllLightModel", "end", "(I)I"⟩, prog_11_method_4_code, (some .int)),
  (⟨"IllLightModel", "byteAt", "(I)I"⟩, prog_11_method_5_code, (some .int)),
  (⟨"IllLightModel", "isLetter", "(I)Z"⟩, prog_11_method_6_code, (some .boolean)),
  (⟨"IllLightModel", "isDigit", "(I)Z"⟩, prog_11_method_7_code, (some .boolean)),
  (⟨"IllLightModel", "four", "(IIII)J"⟩, prog_11_method_8_code, (some .long)),
  (⟨"IllLightModel", "eight", "(IIIIIIII)J"⟩, prog_11_method_9_code, (some .long)),
  (⟨"IllLightModel", "wordOf", "(J)I"⟩, prog_11_method_10_code, (some .int)),
  (⟨"IllLightModel", "advance", "()V"⟩, prog_11_method_11_code, none),
  (⟨"IllLightModel", "ends", "()V"⟩, prog_11_method_12_code, none),
  (⟨"IllLightModel", "also", "(II)V"⟩, prog_11_method_13_code, none),
  (⟨"IllLightModel", "numbered", "(II)I"⟩, prog_11_method_14_code, (some .int)),
  (⟨"IllLightModel", "takes", "(II)I"⟩, prog_11_method_15_code, (some .int)),
  (⟨"IllLightModel", "endsLine", "()V"⟩, prog_11_method_16_code, none),
  (⟨"IllLightModel", "cellTold", "()I"⟩, prog_11_method_17_code, (some .int)),
  (⟨"IllLightModel", "guardLine", "(I)V"⟩, prog_11_method_18_code, none),
  (⟨"IllLightModel", "shipLine", "(I)V"⟩, prog_11_method_19_code, none),
  (⟨"IllLightModel", "shipTold", "()I"⟩, prog_11_method_20_code, (some .int)),
  (⟨"IllLightModel", "manLine", "(II)V"⟩, prog_11_method_21_code, none),
  (⟨"IllLightModel", "coastLine", "()V"⟩, prog_11_method_22_code, none),
  (⟨"IllLightModel", "nightLine", "()V"⟩, prog_11_method_23_code, none),
  (⟨"IllLightModel", "logMan", "(I)V"⟩, prog_11_method_24_code, none),
  (⟨"IllLightModel", "logFact", "(IZ)V"⟩, prog_11_method_25_code, none),
  (⟨"IllLightModel", "logLine", "()V"⟩, prog_11_method_26_code, none),
  (⟨"IllLightModel", "placeOf", "(II)I"⟩, prog_11_method_27_code, (some .int)),
  (⟨"IllLightModel", "sizeOf", "(I)I"⟩, prog_11_method_28_code, (some .int)),
  (⟨"IllLightModel", "isOf", "(II)Z"⟩, prog_11_method_29_code, (some .boolean)),
  (⟨"IllLightModel", "text", "(II)I"⟩, prog_11_method_30_code, (some .int)),
  (⟨"IllLightModel", "settled", "(II)I"⟩, prog_11_method_31_code, (some .int)),
  (⟨"IllLightModel", "settles", "(I)V"⟩, prog_11_method_32_code, none),
  (⟨"IllLightModel", "fault", "(I)I"⟩, prog_11_method_33_code, (some .int)),
  (⟨"IllLightModel", "isCoast", "(I)Z"⟩, prog_11_method_34_code, (some .boolean)),
  (⟨"IllLightModel", "isCell", "(I)Z"⟩, prog_11_method_35_code, (some .boolean)),
  (⟨"IllLightModel", "isShip", "(I)Z"⟩, prog_11_method_36_code, (some .boolean)),
  (⟨"IllLightModel", "of", "(II)I"⟩, prog_11_method_37_code, (some .int)),
  (⟨"IllLightModel", "coast", "(II)I"⟩, prog_11_method_38_code, (some .int)),
  (⟨"IllLightModel", "man", "(IIII)I"⟩, prog_11_method_39_code, (some .int)),
  (⟨"IllLightModel", "asTold", "()V"⟩, prog_11_method_40_code, none),
  (⟨"IllLightModel", "meansAlone", "(II)I"⟩, prog_11_method_41_code, (some .int)),
  (⟨"IllLightModel", "means", "(III)I"⟩, prog_11_method_42_code, (some .int)),
  (⟨"IllLightModel", "harmOf", "(II)I"⟩, prog_11_method_43_code, (some .int)),
  (⟨"IllLightModel", "lightOf", "(II)I"⟩, prog_11_method_44_code, (some .int)),
  (⟨"IllLightModel", "isLit", "(II)Z"⟩, prog_11_method_45_code, (some .boolean)),
  (⟨"IllLightModel", "light", "(IIII)I"⟩, prog_11_method_46_code, (some .int)),
  (⟨"IllLightModel", "isNight", "(I)Z"⟩, prog_11_method_47_code, (some .boolean)),
  (⟨"IllLightModel", "deed", "(III)I"⟩, prog_11_method_48_code, (some .int)),
  (⟨"IllLightModel", "begins", "()V"⟩, prog_11_method_49_code, none),
  (⟨"IllLightModel", "isLost", "(I)Z"⟩, prog_11_method_50_code, (some .boolean)),
  (⟨"IllLightModel", "stepTo", "(II)I"⟩, prog_11_method_51_code, (some .int)),
  (⟨"IllLightModel", "far", "(II)I"⟩, prog_11_method_52_code, (some .int)),
  (⟨"IllLightModel", "apart", "(II)I"⟩, prog_11_method_53_code, (some .int)),
  (⟨"IllLightModel", "side", "(I)I"⟩, prog_11_method_54_code, (some .int)),
  (⟨"IllLightModel", "isBetween", "(II)Z"⟩, prog_11_method_55_code, (some .boolean)),
  (⟨"IllLightModel", "shadeOf", "(I)I"⟩, prog_11_method_56_code, (some .int)),
  (⟨"IllLightModel", "isNearer", "(II)Z"⟩, prog_11_method_57_code, (some .boolean)),
  (⟨"IllLightModel", "isBeamed", "(I)Z"⟩, prog_11_method_58_code, (some .boolean)),
  (⟨"IllLightModel", "isGuarded", "(I)Z"⟩, prog_11_method_59_code, (some .boolean)),
  (⟨"IllLightModel", "isRock", "(I)Z"⟩, prog_11_method_60_code, (some .boolean)),
  (⟨"IllLightModel", "passesHour", "()V"⟩, prog_11_method_61_code, none),
  (⟨"IllLightModel", "does", "(IIII)Z"⟩, prog_11_method_62_code, (some .boolean)),
  (⟨"IllLightModel", "runs", "(I)V"⟩, prog_11_method_63_code, none),
  (⟨"IllLightModel", "stop", "(II)I"⟩, prog_11_method_64_code, (some .int)),
  (⟨"IllLightModel", "nowOf", "(I)I"⟩, prog_11_method_65_code, (some .int)),
  (⟨"IllLightModel", "state", "(IIII)I"⟩, prog_11_method_66_code, (some .int)),
  (⟨"IllLightModel", "isSafe", "(IIII)Z"⟩, prog_11_method_67_code, (some .boolean)),
  (⟨"IllLightModel", "goes", "(IIII)V"⟩, prog_11_method_68_code, none),
  (⟨"IllLightModel", "way", "(III)I"⟩, prog_11_method_69_code, (some .int)),
  (⟨"IllLightModel", "free", "(IIII)I"⟩, prog_11_method_70_code, (some .int)),
  (⟨"IllLightModel", "comes", "(IIII)Z"⟩, prog_11_method_71_code, (some .boolean)),
  (⟨"IllLightModel", "bitsOf", "(I)I"⟩, prog_11_method_72_code, (some .int)),
  (⟨"IllLightModel", "takenOf", "(III)I"⟩, prog_11_method_73_code, (some .int)),
  (⟨"IllLightModel", "lulledOf", "(III)I"⟩, prog_11_method_74_code, (some .int)),
  (⟨"IllLightModel", "illOf", "(III)I"⟩, prog_11_method_75_code, (some .int)),
  (⟨"IllLightModel", "thrownOf", "(III)I"⟩, prog_11_method_76_code, (some .int)),
  (⟨"IllLightModel", "leaveOf", "(III)I"⟩, prog_11_method_77_code, (some .int)),
  (⟨"IllLightModel", "helps", "(IIIII)I"⟩, prog_11_method_78_code, (some .int)),
  (⟨"IllLightModel", "openOf", "(I)I"⟩, prog_11_method_79_code, (some .int)),
  (⟨"IllLightModel", "wins", "(III)Z"⟩, prog_11_method_80_code, (some .boolean)),
  (⟨"IllLightModel", "isRest", "(III)Z"⟩, prog_11_method_81_code, (some .boolean)),
  (⟨"IllLightModel", "safestOf", "(I)I"⟩, prog_11_method_82_code, (some .int)),
  (⟨"IllLightModel", "rest", "(III)I"⟩, prog_11_method_83_code, (some .int)),
  (⟨"IllLightModel", "common", "(JJ)J"⟩, prog_11_method_84_code, (some .long)),
  (⟨"IllLightModel", "power", "(JI)J"⟩, prog_11_method_85_code, (some .long)),
  (⟨"IllLightModel", "premium", "(IIIZ)J"⟩, prog_11_method_86_code, (some .long)),
  (⟨"IllLightModel", "isLog", "(I)Z"⟩, prog_11_method_87_code, (some .boolean)),
  (⟨"IllLightModel", "log", "(II)I"⟩, prog_11_method_88_code, (some .int)),
  (⟨"IllLightModel", "isLitBy", "(II)Z"⟩, prog_11_method_89_code, (some .boolean)),
  (⟨"IllLightModel", "wrongBy", "(I)I"⟩, prog_11_method_90_code, (some .int)),
  (⟨"IllLightModel", "countOf", "(I)I"⟩, prog_11_method_91_code, (some .int)),
  (⟨"IllLightModel", "askOf", "()I"⟩, prog_11_method_92_code, (some .int)),
  (⟨"IllLightModel", "fits", "(II)I"⟩, prog_11_method_93_code, (some .int)),
  (⟨"IllLightModel", "weightOf", "(I)J"⟩, prog_11_method_94_code, (some .long)),
  (⟨"IllLightModel", "belief", "(IIZ)J"⟩, prog_11_method_95_code, (some .long)),
  (⟨"IllLightModel", "darkest", "(I)I"⟩, prog_11_method_96_code, (some .int)),
  (⟨"IllLightModel", "hours", "(III)I"⟩, prog_11_method_97_code, (some .int)),
  (⟨"IllLightModel", "shade", "(II)I"⟩, prog_11_method_98_code, (some .int)),
  (⟨"IllLightModel", "leaves", "(IIII)I"⟩, prog_11_method_99_code, (some .int)),
  (⟨"IllLightModel", "passes", "(III)V"⟩, prog_11_method_100_code, none),
  (⟨"IllLightModel", "back", "(III)I"⟩, prog_11_method_101_code, (some .int)),
  (⟨"IllLightModel", "seenBy", "(III)I"⟩, prog_11_method_102_code, (some .int)),
  (⟨"IllLightModel", "crossed", "(I)I"⟩, prog_11_method_103_code, (some .int)),
  (⟨"IllLightModel", "watch", "(III)I"⟩, prog_11_method_104_code, (some .int)),
  (⟨"IllLightModel", "mutiny", "(IIIZ)I"⟩, prog_11_method_105_code, (some .int)),
  (⟨"IllLightModel", "fraction", "(Z)J"⟩, prog_11_method_106_code, (some .long)),
  (⟨"IllLightModel", "weighs", "(ZJ)V"⟩, prog_11_method_107_code, none),
  (⟨"IllLightModel", "next", "(IIZ)J"⟩, prog_11_method_108_code, (some .long)),
  (⟨"IllLightModel", "both", "(IIIZ)J"⟩, prog_11_method_109_code, (some .long)),
  (⟨"IllLightModel", "below", "(I)I"⟩, prog_11_method_110_code, (some .int)),
  (⟨"IllLightModel", "draws", "()V"⟩, prog_11_method_111_code, none),
  (⟨"IllLightModel", "drawn", "(IIII)I"⟩, prog_11_method_112_code, (some .int)),
  (⟨"IllLightModel", "count", "(I)I"⟩, prog_11_method_113_code, (some .int)),
  (⟨"IllLightModel", "image", "(I)Z"⟩, prog_11_method_114_code, (some .boolean)),
  (⟨"IllLightModel", "again", "(I)Z"⟩, prog_11_method_115_code, (some .boolean)),
  (⟨"java/lang/Integer", "bitCount", "(I)I"⟩, prog_12_method_49_code, (some .int)),
  (⟨"java/lang/Long", "bitCount", "(J)I"⟩, prog_13_method_50_code, (some .int)),
  (⟨"java/lang/String", "length", "()I"⟩, prog_15_method_54_code, (some .int)),
  (⟨"java/lang/String", "charAt", "(I)C"⟩, prog_15_method_56_code, (some .char)),
  (⟨"java/lang/String", "coder", "()B"⟩, prog_15_method_152_code, (some .byte)),
  (⟨"java/lang/String", "isLatin1", "()Z"⟩, prog_15_method_154_code, (some .boolean)),
  (⟨"java/lang/String", "checkIndex", "(II)V"⟩, prog_15_method_155_code, none),
  (⟨"java/lang/StringLatin1", "charAt", "([BI)C"⟩, prog_16_method_2_code, (some .char)),
  (⟨"jdk/internal/util/Preconditions", "checkIndex", "(IILjava/util/function/BiFunction;)I"⟩, prog_19_method_11_code, (some .int)),
  (⟨"IllLightLaw", "law", "([I)Z"⟩, code, (some .boolean))]
def pm_ON : List String := ["IllLight$Coast", "IllLight$Course", "IllLight$Log", "IllLight$Night", "IllLight$Reader", "IllLight$Rows", "IllLight$Sea", "IllLight$Told", "IllLight", "IllLightModel", "java/lang/Integer", "java/lang/Long", "java/lang/String", "java/lang/StringLatin1", "jdk/internal/util/Preconditions", "IllLightLaw"]
def pm_STL : List (Nat × String) := [(139, "size"), (141, "lamp"), (143, "rock"), (145, "guard"), (147, "ship"), (149, "limit"), (151, "plain"), (153, "hired"), (155, "late"), (157, "divided"), (159, "asleep"), (161, "loyal"), (163, "go"), (165, "mean"), (167, "throw"), (169, "hour"), (171, "man"), (173, "errors"), (175, "lit"), (177, "dark"), (179, "")]
end
section
/-! THE SIMPLE MACHINE: ints, longs and numbered references; every object of the system has a tag (its class, or the field whose array it is) and a number; which object a reference field holds is fixed once the constructors have run. -/
abbrev PV : Type := Option (Int32 ⊕ (Int64 ⊕ Option (Nat × Nat)))
abbrev vi (x : Int32) : PV := some (.inl x)
abbrev vl (x : Int64) : PV := some (.inr (.inl x))
abbrev vr (t i : Nat) : PV := some (.inr (.inr (some (t, i))))
abbrev vn : PV := some (.inr (.inr none))
abbrev PH : Type := (Nat → Nat → Nat → Int32) × (Nat → Nat → Nat → Int64)
abbrev PS : Type := Nat × Nat × List PV × List PV × PH
abbrev PR : Type := Option PV × PH
abbrev PC : Type := Nat × Nat × List PV × List PV
abbrev PA : Type := Option (PR ⊕ (PS ⊕ (PS × PC)))
def pm_M (m : Nat) : PI := bif Nat.blt m 277 then (bif Nat.blt m 138 then (bif Nat.blt m 69 then (bif Nat.blt m 34 then (bif Nat.blt m 17 then (bif Nat.blt m 8 then (bif Nat.blt m 4 then (bif Nat.blt m 2 then (bif Nat.blt m 1 then mi_0 else mi_1) else (bif Nat.blt m 3 then mi_2 else mi_3)) else (bif Nat.blt m 6 then (bif Nat.blt m 5 then mi_4 else mi_5) else (bif Nat.blt m 7 then mi_6 else mi_7))) else (bif Nat.blt m 12 then (bif Nat.blt m 10 then (bif Nat.blt m 9 then mi_8 else mi_9) else (bif Nat.blt m 11 then mi_10 else mi_11)) else (bif Nat.blt m 14 then (bif Nat.blt m 13 then mi_12 else mi_13) else (bif Nat.blt m 15 then mi_14 else (bif Nat.blt m 16 then mi_15 else mi_16))))) else (bif Nat.blt m 25 then (bif Nat.blt m 21 then (bif Nat.blt m 19 then (bif Nat.blt m 18 then mi_17 else mi_18) else (bif Nat.blt m 20 then mi_19 else mi_20)) else (bif Nat.blt m 23 then (bif Nat.blt m 22 then mi_21 else mi_22) else (bif Nat.blt m 24 then mi_23 else mi_24))) else (bif Nat.blt m 29 then (bif Nat.blt m 27 then (bif Nat.blt m 26 then mi_25 else mi_26) else (bif Nat.blt m 28 then mi_27 else mi_28)) else (bif Nat.blt m 31 then (bif Nat.blt m 30 then mi_29 else mi_30) else (bif Nat.blt m 32 then mi_31 else (bif Nat.blt m 33 then mi_32 else mi_33)))))) else (bif Nat.blt m 51 then (bif Nat.blt m 42 then (bif Nat.blt m 38 then (bif Nat.blt m 36 then (bif Nat.blt m 35 then mi_34 else mi_35) else (bif Nat.blt m 37 then mi_36 else mi_37)) else (bif Nat.blt m 40 then (bif Nat.blt m 39 then mi_38 else mi_39) else (bif Nat.blt m 41 then mi_40 else mi_41))) else (bif Nat.blt m 46 then (bif Nat.blt m 44 then (bif Nat.blt m 43 then mi_42 else mi_43) else (bif Nat.blt m 45 then mi_44 else mi_45)) else (bif Nat.blt m 48 then (bif Nat.blt m 47 then mi_46 else mi_47) else (bif Nat.blt m 49 then mi_48 else (bif Nat.blt m 50 then mi_49 else mi_50))))) else (bif Nat.blt m 60 then (bif Nat.blt m 55 then (bif Nat.blt m 53 then (bif Nat.blt m 52 then mi_51 else mi_52) else (bif Nat.blt m 54 then mi_53 else mi_54)) else (bif Nat.blt m 57 then (bif Nat.blt m 56 then mi_55 else mi_56) else (bif Nat.blt m 58 then mi_57 else (bif Nat.blt m 59 then mi_58 else mi_59)))) else (bif Nat.blt m 64 then (bif Nat.blt m 62 then (bif Nat.blt m 61 then mi_60 else mi_61) else (bif Nat.blt m 63 then mi_62 else mi_63)) else (bif Nat.blt m 66 then (bif Nat.blt m 65 then mi_64 else mi_65) else (bif Nat.blt m 67 then mi_66 else (bif Nat.blt m 68 then mi_67 else mi_68))))))) else (bif Nat.blt m 103 then (bif Nat.blt m 86 then (bif Nat.blt m 77 then (bif Nat.blt m 73 then (bif Nat.blt m 71 then (bif Nat.blt m 70 then mi_69 else mi_70) else (bif Nat.blt m 72 then mi_71 else mi_72)) else (bif Nat.blt m 75 then (bif Nat.blt m 74 then mi_73 else mi_74) else (bif Nat.blt m 76 then mi_75 else mi_76))) else (bif Nat.blt m 81 then (bif Nat.blt m 79 then (bif Nat.blt m 78 then mi_77 else mi_78) else (bif Nat.blt m 80 then mi_79 else mi_80)) else (bif Nat.blt m 83 then (bif Nat.blt m 82 then mi_81 else mi_82) else (bif Nat.blt m 84 then mi_83 else (bif Nat.blt m 85 then mi_84 else mi_85))))) else (bif Nat.blt m 94 then (bif Nat.blt m 90 then (bif Nat.blt m 88 then (bif Nat.blt m 87 then mi_86 else mi_87) else (bif Nat.blt m 89 then mi_88 else mi_89)) else (bif Nat.blt m 92 then (bif Nat.blt m 91 then mi_90 else mi_91) else (bif Nat.blt m 93 then mi_92 else mi_93))) else (bif Nat.blt m 98 then (bif Nat.blt m 96 then (bif Nat.blt m 95 then mi_94 else mi_95) else (bif Nat.blt m 97 then mi_96 else mi_97)) else (bif Nat.blt m 100 then (bif Nat.blt m 99 then mi_98 else mi_99) else (bif Nat.blt m 101 then mi_100 else (bif Nat.blt m 102 then mi_101 else mi_102)))))) else (bif Nat.blt m 120 then (bif Nat.blt m 111 then (bif Nat.blt m 107 then (bif Nat.blt m 105 then (bif Nat.blt m 104 then mi_103 else mi_104) else (bif Nat.blt m 106 then mi_105 else mi_106)) else (bif Nat.blt m 109 then (bif Nat.blt m 108 then mi_107 else mi_108) else (bif Nat.blt m 110 then mi_109 else mi_110))) else (bif Nat.blt m 115 then (bif Nat.blt m 113 then (bif Nat.blt m 112 then mi_111 else mi_112) else (bif Nat.blt m 114 then mi_113 else mi_114)) else (bif Nat.blt m 117 then (bif Nat.blt m 116 then mi_115 else mi_116) else (bif Nat.blt m 118 then mi_117 else (bif Nat.blt m 119 then mi_118 else mi_119))))) else (bif Nat.blt m 129 then (bif Nat.blt m 124 then (bif Nat.blt m 122 then (bif Nat.blt m 121 then mi_120 else mi_121) else (bif Nat.blt m 123 then mi_122 else mi_123)) else (bif Nat.blt m 126 then (bif Nat.blt m 125 then mi_124 else mi_125) else (bif Nat.blt m 127 then mi_126 else (bif Nat.blt m 128 then mi_127 else mi_128)))) else (bif Nat.blt m 133 then (bif Nat.blt m 131 then (bif Nat.blt m 130 then mi_129 else mi_130) else (bif Nat.blt m 132 then mi_131 else mi_132)) else (bif Nat.blt m 135 then (bif Nat.blt m 134 then mi_133 else mi_134) else (bif Nat.blt m 136 then mi_135 else (bif Nat.blt m 137 then mi_136 else mi_137)))))))) else (bif Nat.blt m 207 then (bif Nat.blt m 172 then (bif Nat.blt m 155 then (bif Nat.blt m 146 then (bif Nat.blt m 142 then (bif Nat.blt m 140 then (bif Nat.blt m 139 then mi_138 else mi_139) else (bif Nat.blt m 141 then mi_140 else mi_141)) else (bif Nat.blt m 144 then (bif Nat.blt m 143 then mi_142 else mi_143) else (bif Nat.blt m 145 then mi_144 else mi_145))) else (bif Nat.blt m 150 then (bif Nat.blt m 148 then (bif Nat.blt m 147 then mi_146 else mi_147) else (bif Nat.blt m 149 then mi_148 else mi_149)) else (bif Nat.blt m 152 then (bif Nat.blt m 151 then mi_150 else mi_151) else (bif Nat.blt m 153 then mi_152 else (bif Nat.blt m 154 then mi_153 else mi_154))))) else (bif Nat.blt m 163 then (bif Nat.blt m 159 then (bif Nat.blt m 157 then (bif Nat.blt m 156 then mi_155 else mi_156) else (bif Nat.blt m 158 then mi_157 else mi_158)) else (bif Nat.blt m 161 then (bif Nat.blt m 160 then mi_159 else mi_160) else (bif Nat.blt m 162 then mi_161 else mi_162))) else (bif Nat.blt m 167 then (bif Nat.blt m 165 then (bif Nat.blt m 164 then mi_163 else mi_164) else (bif Nat.blt m 166 then mi_165 else mi_166)) else (bif Nat.blt m 169 then (bif Nat.blt m 168 then mi_167 else mi_168) else (bif Nat.blt m 170 then mi_169 else (bif Nat.blt m 171 then mi_170 else mi_171)))))) else (bif Nat.blt m 189 then (bif Nat.blt m 180 then (bif Nat.blt m 176 then (bif Nat.blt m 174 then (bif Nat.blt m 173 then mi_172 else mi_173) else (bif Nat.blt m 175 then mi_174 else mi_175)) else (bif Nat.blt m 178 then (bif Nat.blt m 177 then mi_176 else mi_177) else (bif Nat.blt m 179 then mi_178 else mi_179))) else (bif Nat.blt m 184 then (bif Nat.blt m 182 then (bif Nat.blt m 181 then mi_180 else mi_181) else (bif Nat.blt m 183 then mi_182 else mi_183)) else (bif Nat.blt m 186 then (bif Nat.blt m 185 then mi_184 else mi_185) else (bif Nat.blt m 187 then mi_186 else (bif Nat.blt m 188 then mi_187 else mi_188))))) else (bif Nat.blt m 198 then (bif Nat.blt m 193 then (bif Nat.blt m 191 then (bif Nat.blt m 190 then mi_189 else mi_190) else (bif Nat.blt m 192 then mi_191 else mi_192)) else (bif Nat.blt m 195 then (bif Nat.blt m 194 then mi_193 else mi_194) else (bif Nat.blt m 196 then mi_195 else (bif Nat.blt m 197 then mi_196 else mi_197)))) else (bif Nat.blt m 202 then (bif Nat.blt m 200 then (bif Nat.blt m 199 then mi_198 else mi_199) else (bif Nat.blt m 201 then mi_200 else mi_201)) else (bif Nat.blt m 204 then (bif Nat.blt m 203 then mi_202 else mi_203) else (bif Nat.blt m 205 then mi_204 else (bif Nat.blt m 206 then mi_205 else mi_206))))))) else (bif Nat.blt m 242 then (bif Nat.blt m 224 then (bif Nat.blt m 215 then (bif Nat.blt m 211 then (bif Nat.blt m 209 then (bif Nat.blt m 208 then mi_207 else mi_208) else (bif Nat.blt m 210 then mi_209 else mi_210)) else (bif Nat.blt m 213 then (bif Nat.blt m 212 then mi_211 else mi_212) else (bif Nat.blt m 214 then mi_213 else mi_214))) else (bif Nat.blt m 219 then (bif Nat.blt m 217 then (bif Nat.blt m 216 then mi_215 else mi_216) else (bif Nat.blt m 218 then mi_217 else mi_218)) else (bif Nat.blt m 221 then (bif Nat.blt m 220 then mi_219 else mi_220) else (bif Nat.blt m 222 then mi_221 else (bif Nat.blt m 223 then mi_222 else mi_223))))) else (bif Nat.blt m 233 then (bif Nat.blt m 228 then (bif Nat.blt m 226 then (bif Nat.blt m 225 then mi_224 else mi_225) else (bif Nat.blt m 227 then mi_226 else mi_227)) else (bif Nat.blt m 230 then (bif Nat.blt m 229 then mi_228 else mi_229) else (bif Nat.blt m 231 then mi_230 else (bif Nat.blt m 232 then mi_231 else mi_232)))) else (bif Nat.blt m 237 then (bif Nat.blt m 235 then (bif Nat.blt m 234 then mi_233 else mi_234) else (bif Nat.blt m 236 then mi_235 else mi_236)) else (bif Nat.blt m 239 then (bif Nat.blt m 238 then mi_237 else mi_238) else (bif Nat.blt m 240 then mi_239 else (bif Nat.blt m 241 then mi_240 else mi_241)))))) else (bif Nat.blt m 259 then (bif Nat.blt m 250 then (bif Nat.blt m 246 then (bif Nat.blt m 244 then (bif Nat.blt m 243 then mi_242 else mi_243) else (bif Nat.blt m 245 then mi_244 else mi_245)) else (bif Nat.blt m 248 then (bif Nat.blt m 247 then mi_246 else mi_247) else (bif Nat.blt m 249 then mi_248 else mi_249))) else (bif Nat.blt m 254 then (bif Nat.blt m 252 then (bif Nat.blt m 251 then mi_250 else mi_251) else (bif Nat.blt m 253 then mi_252 else mi_253)) else (bif Nat.blt m 256 then (bif Nat.blt m 255 then mi_254 else mi_255) else (bif Nat.blt m 257 then mi_256 else (bif Nat.blt m 258 then mi_257 else mi_258))))) else (bif Nat.blt m 268 then (bif Nat.blt m 263 then (bif Nat.blt m 261 then (bif Nat.blt m 260 then mi_259 else mi_260) else (bif Nat.blt m 262 then mi_261 else mi_262)) else (bif Nat.blt m 265 then (bif Nat.blt m 264 then mi_263 else mi_264) else (bif Nat.blt m 266 then mi_265 else (bif Nat.blt m 267 then mi_266 else mi_267)))) else (bif Nat.blt m 272 then (bif Nat.blt m 270 then (bif Nat.blt m 269 then mi_268 else mi_269) else (bif Nat.blt m 271 then mi_270 else mi_271)) else (bif Nat.blt m 274 then (bif Nat.blt m 273 then mi_272 else mi_273) else (bif Nat.blt m 275 then mi_274 else (bif Nat.blt m 276 then mi_275 else mi_276))))))))) else (0, 0, 0, 0, 0, 0, 0, [])
def pm_own (m : Nat) : Nat := (pm_M m).1
def pm_mxl (m : Nat) : Nat := (pm_M m).2.1
def pm_ret (m : Nat) : Nat := (pm_M m).2.2.1
def pm_na (m : Nat) : Nat := (pm_M m).2.2.2.1
def pm_cls (m : Nat) : Nat := (pm_M m).2.2.2.2.1
def pm_fr (m : Nat) : Nat := (pm_M m).2.2.2.2.2.1
def pm_lo (m : Nat) : Nat := (pm_M m).2.2.2.2.2.2.1
def pm_cd (m : Nat) : List (Nat × Instr × Nat × Option (List Bool)) := (pm_M m).2.2.2.2.2.2.2
/-- List.lookup, List.getD, in a form that is quickly run -/
def pm_lk {β : Type} : List (Nat × β) → Nat → Option β
  | [], _ => none
  | q :: l, a => cond (Nat.beq a q.1) (some q.2) (pm_lk l a)
def pm_nth {α : Type} : List α → Nat → α → α
  | [], _, d => d
  | x :: _, 0, _ => x
  | _ :: l, n + 1, d => pm_nth l n d
theorem pm_lk_eq {β : Type} : ∀ (l : List (Nat × β)) (a : Nat), pm_lk l a = l.lookup a
  | [], _ => rfl
  | (x, y) :: l, a => by
    rw [List.lookup_cons, ← pm_lk_eq l a]
    show cond (Nat.beq a x) (some y) (pm_lk l a) = _
    by_cases e : a = x
    · subst e
      rw [beq_self_eq_true, Nat.beq_refl]
      rfl
    · have h1 : Nat.beq a x = false := by
        cases h : Nat.beq a x with
        | false => rfl
        | true => exact absurd (Nat.eq_of_beq_eq_true h) e
      rw [h1, beq_eq_false_iff_ne.mpr e]
      rfl
theorem pm_nth_eq {α : Type} : ∀ (l : List α) (n : Nat) (d : α), pm_nth l n d = l.getD n d
  | [], _, _ => rfl
  | x :: l, 0, _ => rfl
  | x :: l, n + 1, d => pm_nth_eq l n d
def pm_fetch (m pc : Nat) : Option (Instr × Nat × Option (List Bool)) := pm_lk (pm_cd m) pc
def pm_fty (ci k : Nat) : Nat := pm_nth (pm_nth pm_ft ci []) k 9
def pm_rf (ci k i : Nat) : PV := match pm_nth (pm_nth pm_rt ci []) k (0, 0, 0) with
  | (t, 0, b) => vr t b
  | (t, _, _) => vr t i
def pm_ak (t : Nat) : Nat := (pm_nth pm_at (t - 10) (9, 0)).1
def pm_aref (t i j : Nat) : PV := match pm_nth pm_ra (t - 10) (0, 0, 0) with
  | (t', a, b) => vr t' (j + (a * i + b))
end
section
/-! what the tables say of the machine's own words -/
def pm_Yd : MethodName × ByteArray × Option FieldType := (⟨"", "", ""⟩, ByteArray.empty, none)
def pm_y (m : Nat) : MethodName := (pm_Y.getD m pm_Yd).1
def pm_by (m : Nat) : ByteArray := (pm_Y.getD m pm_Yd).2.1
def pm_rt0 (m : Nat) : Option FieldType := (pm_Y.getD m pm_Yd).2.2
def pm_on (m : Nat) : String := pm_ON.getD (pm_own m) ""
def pm_nf (t : Nat) : Nat := (pm_ft.getD t []).length
/-- an instruction's length; 0: any -/
def pm_il (i : Instr) : Nat := match i with
  | .iconst _ => 1
  | .bipush _ => 2
  | .sipush _ => 3
  | .lconst _ => 1
  | .iload _ => 2
  | .lload _ => 2
  | .aload _ => 2
  | .istore _ => 2
  | .lstore _ => 2
  | .astore _ => 2
  | .iinc _ _ => 3
  | .ifCond _ _ => 3
  | .if_icmp _ _ => 3
  | .goto _ => 3
  | .ifnull _ => 3
  | .ifnonnull _ => 3
  | .tableswitch _ _ _ _ => 0
  | .lookupswitch _ _ => 0
  | .getfield _ => 3
  | .putfield _ => 3
  | .getstatic _ => 3
  | .ldc _ => 2
  | .ldc_w _ => 3
  | .ldc2_w _ => 3
  | .invokevirtual _ => 3
  | .invokestatic _ => 3
  | .new _ => 0
  | .invokespecial _ => 0
  | _ => 1
/-- the words that a callee may take over -/
def pm_tb : List Cond := lw_tbl.filter goodWord
theorem tf_tb {w : Cond} (h : w ∈ pm_tb) : w ∈ lw_tbl := (List.mem_filter.mp h).1
theorem tf_good : ∀ w ∈ pm_tb, goodWord w = true := fun _ h => (List.mem_filter.mp h).2
/-- a text constant's own class, place and text -/
def pm_ST (i : Nat) : Nat × String := pm_STL.getD i (0, "")
def pm_sf (n : Nat) : String × String × String := match n with
  | 0 => ("IllLight$Reader", "WORDS_OF_SORT", "[I")
  | 1 => ("IllLight$Reader", "NUMBERS_OF_WORD", "[I")
  | 2 => ("IllLight$Reader", "MOST", "[I")
  | 3 => ("java/lang/String", "COMPACT_STRINGS", "Z")
  | _ => ("jdk/internal/util/Preconditions", "SIOOBE_FORMATTER", "Ljava/util/function/BiFunction;")
def pm_cn (m : Nat) : String := if pm_cls m = 61 then "java/lang/String" else match vwCl[pm_cls m - 1]? with
  | some q => q.1
  | none => ""
/-- the objects: a tag and how many there are of it -/
def pm_cnt : List (Nat × Nat) := [(0, 11), (1, 1), (2, 9), (3, 9), (4, 1), (5, 1), (6, 4), (7, 1), (8, 1), (10, 11), (11, 11), (12, 11), (13, 11), (14, 11), (15, 11), (16, 11), (17, 11), (18, 11), (19, 9), (20, 9), (21, 9), (22, 9), (23, 9), (24, 1), (25, 1), (26, 4), (27, 4), (28, 4), (29, 4), (30, 4), (31, 1), (32, 1), (33, 1), (34, 1), (35, 1), (36, 1), (37, 1), (38, 1), (39, 1), (40, 1), (41, 1), (42, 1), (43, 1)]
def pm_obs : List (Nat × Nat) := pm_cnt.flatMap fun q => (List.range q.2).map fun i => (q.1, i)
def pm_okq (t i : Nat) : Prop := (t, i) ∈ pm_obs ∨ ((t = 60 ∨ t = 61) ∧ i < 21) ∨ (62 ≤ t ∧ t ≤ 65 ∧ i = 0) ∨ t = 67
def pm_okv (v : PV) : Prop := match v with
  | some (.inr (.inr (some (t, i)))) => pm_okq t i
  | _ => True
/-- the targets of an instruction's jumps lie in the code -/
def pm_tok (pc : Nat) (i : Instr) : Bool := match i with
  | .ifCond _ o => decide (0 ≤ (pc : Int) + o)
  | .if_icmp _ o => decide (0 ≤ (pc : Int) + o)
  | .goto o => decide (0 ≤ (pc : Int) + o)
  | .ifnull o => decide (0 ≤ (pc : Int) + o)
  | .ifnonnull o => decide (0 ≤ (pc : Int) + o)
  | .tableswitch d _ _ os => decide (0 ≤ (pc : Int) + d) && os.toList.all (fun o => decide (0 ≤ (pc : Int) + o))
  | .lookupswitch d ps => decide (0 ≤ (pc : Int) + d) && ps.toList.all (fun o => decide (0 ≤ (pc : Int) + o.2))
  | _ => true
end
section
/-! the tables once more, each entry with the place of its word in lw_tbl -/
def pm_F2 : List (List ((Nat × Nat × Nat) × Nat)) := [[((9, 0, 0), 156), ((15, 0, 1), 159), ((18, 0, 3), 165), ((21, 0, 6), 175), ((25, 0, 7), 176), ((28, 0, 9), 181), ((31, 0, 10), 185), ((34, 0, 11), 188), ((37, 0, 12), 189), ((40, 0, 13), 192), ((43, 0, 14), 194), ((46, 0, 15), 196), ((49, 0, 2), 163), ((52, 0, 4), 168), ((56, 0, 5), 173), ((59, 0, 8), 177)], [((12, 1, 0), 379), ((22, 1, 1), 380), ((26, 1, 2), 381), ((29, 1, 3), 382), ((32, 1, 4), 383), ((38, 3, 0), 239), ((43, 3, 1), 242), ((47, 3, 2), 244), ((58, 1, 5), 384), ((61, 0, 8), 178), ((90, 0, 9), 183), ((93, 0, 1), 161), ((96, 0, 0), 157), ((99, 0, 10), 186), ((110, 0, 4), 170)], [((9, 2, 1), 259), ((15, 2, 2), 260), ((19, 2, 5), 266), ((22, 2, 6), 267), ((25, 2, 0), 257), ((28, 2, 3), 262), ((31, 2, 4), 264)], [((9, 3, 1), 241), ((15, 3, 2), 243), ((18, 3, 0), 237)], [((12, 4, 0), 328), ((21, 4, 1), 330), ((28, 4, 2), 332), ((32, 4, 5), 338), ((43, 4, 6), 339), ((51, 4, 3), 334), ((54, 4, 7), 340), ((57, 4, 4), 336), ((67, 3, 0), 238), ((71, 4, 8), 341), ((74, 4, 9), 342), ((77, 4, 10), 343), ((80, 4, 11), 344), ((181, 0, 8), 179), ((184, 0, 5), 174), ((193, 0, 12), 190), ((199, 2, 0), 258), ((201, 2, 4), 265), ((227, 0, 0), 158), ((230, 0, 1), 162), ((233, 0, 3), 166), ((235, 0, 2), 164), ((237, 0, 4), 171), ((249, 2, 2), 261), ((250, 2, 3), 263)], [((15, 0, 4), 167), ((48, 0, 1), 160)], [((9, 5, 6), 412), ((29, 5, 0), 406), ((37, 5, 1), 407), ((40, 0, 4), 169), ((43, 5, 2), 408), ((50, 0, 9), 182), ((54, 5, 3), 409), ((57, 5, 4), 410), ((84, 5, 5), 411)], [((9, 6, 0), 283), ((15, 6, 3), 289), ((19, 6, 4), 291), ((24, 6, 5), 292), ((30, 6, 6), 294), ((36, 6, 7), 296), ((43, 6, 1), 286), ((49, 4, 0), 329), ((59, 4, 1), 331), ((66, 4, 2), 333), ((85, 6, 2), 288)], [((10, 7, 0), 429), ((16, 7, 1), 430), ((20, 7, 2), 431), ((27, 7, 3), 432), ((34, 7, 4), 433), ((41, 7, 5), 434), ((48, 7, 6), 435), ((52, 6, 1), 285), ((60, 6, 2), 287), ((63, 6, 3), 290), ((70, 6, 0), 284), ((78, 4, 3), 335), ((79, 4, 4), 337), ((95, 0, 13), 193), ((98, 0, 14), 195), ((101, 0, 15), 197), ((108, 3, 0), 240), ((161, 0, 9), 184), ((241, 0, 8), 180), ((270, 0, 4), 172), ((294, 6, 5), 293), ((298, 6, 6), 295), ((302, 6, 7), 297), ((306, 0, 12), 191), ((324, 0, 10), 187)], [((7, 8, 0), 1195), ((13, 8, 1), 1196), ((17, 8, 12), 1207), ((20, 8, 17), 1212), ((23, 8, 18), 1213), ((26, 8, 21), 1216), ((29, 8, 27), 1222), ((32, 8, 28), 1223), ((35, 8, 29), 1224), ((38, 8, 32), 1227), ((41, 8, 33), 1228), ((44, 8, 2), 1197), ((58, 8, 3), 1198), ((65, 8, 4), 1199), ((68, 8, 5), 1200), ((83, 8, 7), 1202), ((89, 8, 6), 1201), ((92, 8, 8), 1203), ((114, 8, 9), 1204), ((117, 8, 10), 1205), ((124, 8, 11), 1206), ((178, 8, 13), 1208), ((181, 8, 14), 1209), ((184, 8, 15), 1210), ((187, 8, 16), 1211), ((199, 8, 19), 1214), ((221, 8, 20), 1215), ((227, 8, 22), 1217), ((230, 8, 23), 1218), ((233, 8, 24), 1219), ((236, 8, 25), 1220), ((239, 8, 26), 1221), ((346, 8, 30), 1225), ((361, 8, 31), 1226), ((384, 8, 35), 1230), ((388, 8, 34), 1229), ((399, 8, 36), 1231)], [], [], [((9, 60, 0), 1756), ((15, 60, 1), 1757)], [], [], []]
def pm_G2 : List (List ((Nat × Nat) × Nat)) := [[], [], [], [], [((97, 1), 601), ((108, 2), 610), ((118, 0), 505)], [], [], [], [], [], [], [], [((38, 3), 543), ((1053, 4), 559)], [], [], []]
def pm_L2 : List (List ((Nat × Nat) × Nat)) := [[((62, 1000), 669), ((68, 5), 643), ((72, 7), 716), ((76, 10), 812), ((80, 93), 816), ((86, 9), 700), ((90, 13), 704), ((94, 14), 708), ((97, 8), 712), ((100, 15), 752), ((104, 1002), 756), ((109, 16), 761), ((112, 17), 882), ((115, 18), 883), ((119, 6), 837), ((122, 1001), 803), ((125, 24), 1115)], [((18, 1), 778), ((35, 29), 774), ((50, 37), 779), ((54, 33), 824), ((64, 32), 1086), ((69, 5), 828), ((73, 34), 787), ((76, 35), 829), ((80, 27), 833), ((84, 6), 838), ((87, 36), 839), ((102, 38), 783), ((106, 11), 808), ((114, 39), 791), ((117, 17), 806), ((121, 18), 807), ((124, 24), 795), ((127, 25), 799), ((130, 41), 851), ((133, 42), 857), ((136, 9), 855), ((139, 16), 856), ((142, 15), 861)], [((34, 1000), 681), ((40, 49), 1013), ((44, 47), 1017), ((48, 267), 1045), ((54, 51), 1041), ((58, 52), 1037), ((61, 50), 1029), ((65, 53), 1033), ((68, 268), 1055), ((73, 58), 1056), ((77, 1002), 1060), ((82, 60), 1074)], [((22, 1000), 676)], [((36, 65), 475), ((39, 67), 487), ((47, 70), 497), ((60, 83), 656), ((64, 0), 479), ((70, 43), 483), ((83, 68), 491), ((87, 69), 494), ((90, 71), 501), ((94, 78), 583), ((100, 74), 603), ((104, 75), 607), ((111, 66), 597), ((115, 79), 612), ((121, 73), 507), ((125, 72), 531), ((129, 269), 535), ((135, 270), 545), ((187, 76), 587), ((190, 5), 590), ((196, 77), 594), ((204, 61), 616), ((208, 82), 620), ((211, 80), 632), ((214, 81), 644), ((217, 1002), 636), ((223, 4), 639), ((241, 2), 648), ((244, 3), 652), ((247, 45), 624), ((252, 46), 628)], [((9, 10), 970), ((23, 268), 973), ((29, 1001), 966), ((35, 84), 967), ((41, 85), 963), ((45, 86), 983), ((52, 87), 980), ((56, 91), 960), ((60, 1003), 974)], [((19, 92), 819), ((23, 10), 874), ((32, 11), 875), ((46, 5), 877), ((60, 95), 888), ((64, 96), 933), ((68, 268), 903), ((74, 7), 1136), ((78, 1003), 1137), ((87, 8), 1138), ((91, 93), 1139)], [((46, 104), 664), ((55, 1), 665), ((63, 62), 672), ((70, 44), 677), ((73, 1002), 682), ((79, 1000), 1184)], [((56, 105), 455), ((66, 104), 467), ((74, 64), 471), ((80, 106), 660), ((84, 138), 692), ((88, 12), 696), ((91, 6), 724), ((104, 139), 732), ((113, 63), 736), ((116, 5), 744), ((120, 141), 745), ((123, 16), 748), ((126, 17), 757), ((129, 18), 762), ((132, 15), 765), ((136, 30), 770), ((140, 40), 847), ((141, 144), 866), ((145, 8), 869), ((148, 94), 870), ((152, 20), 878), ((155, 96), 884), ((158, 142), 896), ((164, 98), 899), ((168, 145), 914), ((172, 146), 934), ((176, 147), 939), ((179, 148), 943), ((182, 149), 947), ((185, 143), 954), ((188, 90), 957), ((194, 88), 977), ((197, 89), 986), ((204, 151), 995), ((208, 140), 1005), ((212, 48), 1009), ((215, 54), 1025), ((219, 268), 1046), ((225, 55), 1047), ((228, 57), 1051), ((231, 56), 1061), ((235, 47), 1069), ((237, 59), 1070), ((244, 31), 1082), ((247, 19), 1095), ((250, 150), 1099), ((253, 21), 1103), ((256, 267), 918), ((260, 26), 1111), ((263, 99), 1124), ((266, 100), 1132), ((274, 101), 1140), ((277, 102), 1144), ((281, 103), 1148), ((284, 23), 1156), ((287, 22), 1160), ((290, 107), 1180), ((309, 1), 924), ((312, 28), 925), ((316, 97), 929), ((320, 27), 938), ((327, 1002), 1102), ((332, 152), 998)], [((48, 159), 1342), ((54, 160), 1345), ((61, 156), 1330), ((71, 157), 1334), ((79, 161), 1339), ((86, 158), 1349), ((96, 163), 1360), ((99, 153), 1319), ((103, 164), 1368), ((107, 162), 1326), ((110, 165), 1364), ((120, 168), 1372), ((127, 171), 1388), ((130, 166), 1356), ((133, 169), 1376), ((137, 170), 1380), ((140, 172), 1384), ((143, 167), 1392), ((146, 175), 1404), ((149, 176), 1408), ((153, 180), 1322), ((157, 173), 1352), ((160, 174), 1396), ((163, 177), 1400), ((166, 179), 1412), ((169, 178), 1415), ((172, 183), 1418), ((175, 182), 1422), ((190, 185), 1434), ((193, 187), 1438), ((196, 188), 1442), ((202, 192), 1462), ((205, 193), 1458), ((209, 194), 1466), ((212, 195), 1470), ((215, 191), 1454), ((218, 196), 1474), ((224, 198), 1482), ((242, 203), 1529), ((245, 205), 1522), ((248, 204), 1525), ((251, 201), 1506), ((254, 206), 1518), ((257, 208), 1532), ((260, 207), 1514), ((263, 209), 1510), ((266, 211), 1536), ((269, 210), 1540), ((272, 212), 1502), ((275, 202), 1544), ((278, 200), 1494), ((281, 213), 1498), ((285, 214), 1490), ((288, 216), 1552), ((291, 218), 1568), ((294, 186), 1560), ((297, 219), 1564), ((301, 223), 1584), ((304, 222), 1587), ((307, 224), 1580), ((310, 226), 1591), ((313, 227), 1595), ((316, 228), 1599), ((319, 225), 1603), ((322, 231), 1619), ((325, 230), 1615), ((328, 233), 1611), ((331, 232), 1623), ((338, 236), 1633), ((342, 235), 1636), ((349, 238), 1643), ((352, 240), 1659), ((355, 241), 1655), ((358, 242), 1651), ((364, 243), 1663), ((367, 245), 1671), ((371, 247), 1679), ((374, 251), 1695), ((378, 254), 1703), ((381, 253), 1707), ((391, 258), 1719), ((395, 257), 1723), ((403, 261), 1739), ((406, 262), 1735)], [], [], [((335, 271), 539), ((492, 272), 549), ((495, 274), 553), ((1059, 275), 561)], [((9, 273), 556)], [], [((13, 108), 451), ((17, 154), 1307), ((18, 109), 459), ((22, 155), 1311), ((23, 110), 463), ((27, 181), 1315), ((28, 111), 684), ((31, 184), 1426), ((32, 112), 688), ((35, 189), 1430), ((36, 113), 720), ((40, 190), 1446), ((41, 114), 728), ((45, 199), 1478), ((46, 115), 740), ((49, 197), 1450), ((50, 116), 766), ((53, 215), 1486), ((54, 117), 843), ((57, 217), 1548), ((58, 118), 862), ((61, 220), 1556), ((62, 119), 892), ((65, 221), 1572), ((66, 120), 910), ((69, 229), 1576), ((70, 121), 950), ((73, 234), 1607), ((74, 122), 989), ((78, 237), 1627), ((79, 123), 1001), ((82, 239), 1639), ((83, 124), 1021), ((86, 244), 1647), ((87, 125), 1065), ((91, 246), 1667), ((92, 126), 1078), ((95, 263), 1731), ((96, 127), 1091), ((99, 248), 1675), ((100, 128), 1107), ((103, 249), 1683), ((104, 129), 1116), ((107, 250), 1687), ((108, 130), 1120), ((111, 252), 1691), ((112, 131), 1128), ((115, 255), 1699), ((116, 132), 1152), ((120, 256), 1711), ((121, 133), 1164), ((124, 259), 1715), ((125, 134), 1168), ((128, 260), 1727), ((129, 135), 1172), ((132, 264), 1744), ((133, 136), 1176), ((137, 265), 1748), ((138, 137), 1185), ((141, 266), 1752)]]
def pm_CI2 : List (List ((Nat × Int32) × Nat)) := [[], [((68, 1103515245), 1090)], [], [], [], [], [], [], [((167, 16777215), 909)], [((402, 1103515245), 1743)], [((265, 1431655765), 921), ((266, 858993459), 922), ((267, 252645135), 923)], [], [], [], [], []]
def pm_CL2 : List (List ((Nat × Int64) × Nat)) := [[], [], [], [], [], [((19, (-1)), 971), ((21, 255), 972)], [((15, 9187201950435737471), 822), ((17, (-72340172838076674)), 823), ((35, (-1)), 876)], [], [((200, (-1)), 993), ((202, 10), 994)], [((52, 1048576), 1348), ((75, 32), 1337), ((77, 96), 1338), ((334, (-1)), 1631), ((336, 10), 1632)], [], [((314, 6148914691236517205), 906), ((316, 3689348814741910323), 907), ((318, 1085102592571150095), 908)], [], [], [], []]
def pm_MW : List (Nat × Nat × Nat × Nat) := [(482, 115, 480, 481), (668, 115, 666, 667), (651, 115, 649, 650), (655, 115, 653, 654), (642, 115, 640, 641), (593, 115, 591, 592), (727, 115, 725, 726), (719, 115, 717, 718), (715, 115, 713, 714), (703, 115, 701, 702), (815, 115, 813, 814), (811, 115, 809, 810), (699, 115, 697, 698), (707, 115, 706, 14), (711, 115, 710, 15), (755, 115, 753, 754), (751, 115, 749, 750), (760, 115, 758, 759), (764, 115, 763, 0), (1098, 115, 1096, 1097), (881, 115, 879, 880), (1106, 115, 1104, 1105), (1163, 115, 1161, 1162), (1159, 115, 1157, 1158), (798, 115, 796, 797), (802, 115, 800, 801), (1114, 115, 1112, 1113), (836, 115, 834, 835), (928, 115, 926, 927), (777, 119, 776, 17), (773, 119, 771, 772), (1085, 119, 1083, 1084), (1089, 119, 1088, 40), (827, 119, 826, 22), (790, 119, 789, 20), (832, 119, 831, 23), (842, 119, 841, 24), (782, 119, 781, 18), (786, 119, 785, 19), (794, 119, 793, 21), (850, 119, 848, 849), (854, 119, 853, 25), (860, 119, 859, 26), (486, 117, 484, 485), (680, 117, 678, 679), (627, 117, 625, 626), (631, 117, 629, 630), (1020, 117, 1018, 1019), (1012, 117, 1010, 1011), (1016, 117, 1015, 33), (1032, 117, 1031, 34), (1044, 117, 1043, 37), (1040, 117, 1039, 36), (1036, 117, 1035, 35), (1028, 117, 1026, 1027), (1050, 117, 1048, 1049), (1064, 117, 1062, 1063), (1054, 117, 1052, 1053), (1059, 117, 1058, 38), (1073, 117, 1071, 1072), (1077, 117, 1076, 39), (619, 116, 617, 618), (675, 116, 673, 674), (739, 116, 737, 738), (474, 118, 472, 473), (478, 118, 477, 0), (600, 118, 599, 6), (490, 118, 489, 1), (493, 118, 492, 0), (496, 118, 495, 0), (500, 118, 499, 2), (504, 118, 503, 3), (534, 118, 533, 4), (509, 118, 508, 0), (606, 118, 605, 7), (609, 118, 608, 0), (589, 118, 588, 0), (596, 118, 595, 0), (586, 118, 585, 5), (615, 118, 614, 8), (635, 118, 634, 10), (647, 118, 646, 11), (623, 118, 622, 9), (659, 118, 658, 12), (969, 130, 968, 0), (965, 130, 964, 0), (985, 130, 984, 0), (982, 130, 981, 0), (979, 130, 978, 0), (988, 130, 987, 0), (959, 130, 958, 0), (962, 130, 961, 0), (821, 120, 820, 0), (818, 120, 817, 0), (873, 120, 871, 872), (891, 120, 890, 27), (887, 120, 885, 886), (932, 120, 930, 931), (902, 120, 900, 901), (1127, 120, 1125, 1126), (1135, 120, 1133, 1134), (1143, 120, 1141, 1142), (1147, 120, 1145, 1146), (1151, 120, 1149, 1150), (470, 114, 468, 469), (458, 114, 456, 457), (663, 114, 661, 662), (1183, 114, 1181, 1182), (454, 113, 452, 453), (462, 113, 460, 461), (466, 113, 464, 465), (687, 113, 685, 686), (691, 113, 689, 690), (723, 113, 721, 722), (731, 113, 729, 730), (743, 113, 741, 742), (769, 113, 767, 768), (846, 113, 844, 845), (865, 113, 863, 864), (895, 113, 893, 894), (913, 113, 911, 912), (953, 113, 951, 952), (992, 113, 990, 991), (1004, 113, 1002, 1003), (1024, 113, 1022, 1023), (1068, 113, 1066, 1067), (1081, 113, 1079, 1080), (1094, 113, 1092, 1093), (1110, 113, 1108, 1109), (1119, 113, 1117, 1118), (1123, 113, 1121, 1122), (1131, 113, 1129, 1130), (1155, 113, 1153, 1154), (1167, 113, 1165, 1166), (1171, 113, 1169, 1170), (1175, 113, 1173, 1174), (1179, 113, 1177, 1178), (1188, 113, 1186, 1187), (695, 113, 694, 13), (735, 113, 734, 16), (1008, 113, 1007, 32), (747, 113, 746, 0), (898, 113, 897, 0), (956, 113, 955, 0), (868, 113, 867, 0), (917, 113, 916, 28), (937, 113, 936, 29), (942, 113, 941, 30), (946, 113, 945, 31), (949, 113, 948, 0), (1101, 113, 1100, 0), (997, 113, 996, 0), (1000, 113, 999, 0), (1321, 121, 1320, 0), (1310, 121, 1308, 1309), (1314, 121, 1312, 1313), (1333, 121, 1332, 43), (1336, 121, 1335, 0), (1351, 121, 1350, 0), (1344, 121, 1343, 0), (1347, 121, 1346, 0), (1341, 121, 1340, 0), (1329, 121, 1328, 42), (1363, 121, 1362, 46), (1371, 121, 1370, 48), (1367, 121, 1366, 47), (1359, 121, 1358, 45), (1395, 121, 1394, 54), (1375, 121, 1374, 49), (1379, 121, 1378, 50), (1383, 121, 1382, 51), (1391, 121, 1390, 53), (1387, 121, 1386, 52), (1355, 121, 1354, 44), (1399, 121, 1398, 55), (1407, 121, 1406, 57), (1411, 121, 1410, 58), (1403, 121, 1402, 56), (1417, 121, 1416, 0), (1414, 121, 1413, 0), (1325, 121, 1324, 41), (1318, 121, 1316, 1317), (1425, 121, 1424, 60), (1421, 121, 1420, 59), (1429, 121, 1427, 1428), (1437, 121, 1436, 61), (1563, 121, 1562, 85), (1441, 121, 1440, 62), (1445, 121, 1444, 63), (1433, 121, 1431, 1432), (1449, 121, 1447, 1448), (1457, 121, 1456, 64), (1465, 121, 1464, 66), (1461, 121, 1460, 65), (1469, 121, 1468, 67), (1473, 121, 1472, 68), (1477, 121, 1476, 69), (1453, 121, 1451, 1452), (1485, 121, 1484, 70), (1481, 121, 1479, 1480), (1497, 121, 1496, 72), (1509, 121, 1508, 75), (1547, 121, 1546, 83), (1531, 121, 1530, 0), (1528, 121, 1527, 79), (1524, 121, 1523, 0), (1521, 121, 1520, 78), (1517, 121, 1516, 77), (1535, 121, 1534, 80), (1513, 121, 1512, 76), (1543, 121, 1542, 82), (1539, 121, 1538, 81), (1505, 121, 1504, 74), (1501, 121, 1500, 73), (1493, 121, 1492, 71), (1489, 121, 1487, 1488), (1555, 121, 1554, 84), (1551, 121, 1549, 1550), (1571, 121, 1570, 87), (1567, 121, 1566, 86), (1559, 121, 1557, 1558), (1575, 121, 1573, 1574), (1590, 121, 1589, 89), (1586, 121, 1585, 0), (1583, 121, 1582, 88), (1606, 121, 1605, 93), (1594, 121, 1593, 90), (1598, 121, 1597, 91), (1602, 121, 1601, 92), (1579, 121, 1577, 1578), (1618, 121, 1617, 95), (1622, 121, 1621, 96), (1626, 121, 1625, 97), (1614, 121, 1613, 94), (1610, 121, 1608, 1609), (1638, 121, 1637, 0), (1635, 121, 1634, 0), (1630, 121, 1628, 1629), (1646, 121, 1645, 98), (1642, 121, 1640, 1641), (1662, 121, 1661, 101), (1658, 121, 1657, 100), (1654, 121, 1653, 99), (1666, 121, 1665, 102), (1650, 121, 1648, 1649), (1674, 121, 1673, 103), (1670, 121, 1668, 1669), (1682, 121, 1681, 104), (1678, 121, 1676, 1677), (1686, 121, 1684, 1685), (1690, 121, 1688, 1689), (1698, 121, 1697, 105), (1694, 121, 1692, 1693), (1710, 121, 1709, 107), (1706, 121, 1705, 106), (1702, 121, 1700, 1701), (1714, 121, 1712, 1713), (1726, 121, 1725, 109), (1722, 121, 1721, 108), (1718, 121, 1716, 1717), (1730, 121, 1728, 1729), (1742, 121, 1741, 111), (1738, 121, 1737, 110), (1734, 121, 1732, 1733), (1747, 121, 1745, 1746), (1751, 121, 1749, 1750), (1755, 121, 1753, 1754), (920, 129, 919, 0), (905, 128, 904, 0), (538, 122, 536, 537), (548, 122, 546, 547), (542, 122, 540, 541), (552, 122, 550, 551), (558, 122, 557, 0), (555, 123, 554, 0), (563, 124, 562, 0), (0, 0, 0, 0)]
def pm_is (i : Nat) (w : Cond) : Bool := decide (lw_tbl[i]? = some w) && goodWord w
theorem pm_is_tb {i : Nat} {w : Cond} (h : pm_is i w = true) : w ∈ pm_tb := by
  unfold pm_is at h
  rw [Bool.and_eq_true, decide_eq_true_eq] at h
  exact List.mem_filter.mpr ⟨List.mem_of_getElem? h.1, h.2⟩
theorem pm_lookup_mem {β : Type} {a : Nat} {b : β} : ∀ {l : List (Nat × β)}, l.lookup a = some b → (a, b) ∈ l
  | [], h => by cases h
  | (x, y) :: l, h => by
    rw [List.lookup_cons] at h
    by_cases e : a = x
    · rw [beq_iff_eq.mpr e] at h
      have h : y = b := Option.some.inj h
      rw [e, h]
      exact List.mem_cons_self
    · rw [beq_eq_false_iff_ne.mpr e] at h
      exact List.mem_cons_of_mem _ (pm_lookup_mem h)
/-- an entry of a table, with its place -/
theorem pm_tab2 {β : Type} {L : List (List (Nat × β))} {L2 : List (List ((Nat × β) × Nat))} (e : L = L2.map (fun l => l.map Prod.fst)) {chk : Nat → ((Nat × β) × Nat) → Bool} {N : Nat} (hN : L2.length ≤ N) (hc : (List.range N).all (fun w => (L2.getD w []).all (chk w)) = true) {w a : Nat} {b : β} (h : pm_lk (pm_nth L w []) a = some b) : ∃ i, chk w ((a, b), i) = true := by
  rw [pm_lk_eq, pm_nth_eq] at h
  have hm := pm_lookup_mem h
  have e1 : L.getD w [] = (L2.getD w []).map Prod.fst := by
    rw [e, List.getD_eq_getElem?_getD, List.getD_eq_getElem?_getD, List.getElem?_map]
    cases L2[w]? <;> rfl
  rw [e1] at hm
  obtain ⟨q, hq, hq2⟩ := List.mem_map.mp hm
  have hw : w < N := by
    refine Nat.not_le.mp fun z => ?_
    have : L2.getD w [] = [] := by
      rw [List.getD_eq_getElem?_getD, List.getElem?_eq_none_iff.mpr (Nat.le_trans hN z)]
      rfl
    rw [this] at hq
    cases hq
  have h1 := List.all_eq_true.mp (List.all_eq_true.mp hc w (List.mem_range.mpr hw)) q hq
  refine ⟨q.2, ?_⟩
  rw [← hq2]
  exact h1
def pm_own2 (w : Nat) : String := pm_ON.getD w ""
def pm_fck (w : Nat) (q : (Nat × Nat × Nat) × Nat) : Bool := match q with
  | ((idx, ci, k), i) => if ci < 9 then (match vwCl[ci]? with
      | some (C, T, N) => decide (N = pm_nf ci) && decide (k < N) && pm_is i (Cond.fieldLink (pm_own2 w) idx C (T k).2.1 (T k).2.2.1) && decide ((T k).1 = C) && (decide (pm_fty ci k = 3) || decide ((T k).2.2.2 = false)) && (match pm_fty ci k with
        | 0 => decide (parseFieldDescriptor (T k).2.2.1 = some .int)
        | 1 => decide (parseFieldDescriptor (T k).2.2.1 = some .long)
        | 2 => decide (parseFieldDescriptor (T k).2.2.1 = some .boolean)
        | 3 => true
        | _ => false)
      | none => false) else if ci = 60 then (if k = 0 then pm_is i (Cond.fieldLink (pm_own2 w) idx "java/lang/String" "value" "[B") else if k = 1 then pm_is i (Cond.fieldLink (pm_own2 w) idx "java/lang/String" "coder" "B") else false) else false
theorem fck_all : (List.range 17).all (fun w => (pm_F2.getD w []).all (pm_fck w)) = true := by decide +kernel
theorem F2_eq : pm_F = pm_F2.map (fun l => l.map Prod.fst) := by rfl
theorem tf_fld {m idx ci k : Nat} (h : pm_lk (pm_nth pm_F (pm_own m) []) idx = some (ci, k)) (hc : ci < 9) : ∃ (C : String) (T : u_T), vwCl[ci]? = some (C, T, pm_nf ci) ∧ k < pm_nf ci ∧ Cond.fieldLink (pm_on m) idx C (T k).2.1 (T k).2.2.1 ∈ pm_tb ∧ (T k).1 = C ∧ (pm_fty ci k = 0 → parseFieldDescriptor (T k).2.2.1 = some .int ∧ (T k).2.2.2 = false) ∧ (pm_fty ci k = 1 → parseFieldDescriptor (T k).2.2.1 = some .long ∧ (T k).2.2.2 = false) ∧ (pm_fty ci k = 2 → parseFieldDescriptor (T k).2.2.1 = some .boolean ∧ (T k).2.2.2 = false) := by
  obtain ⟨i, hi⟩ := pm_tab2 F2_eq (N := 17) (by decide) fck_all h
  unfold pm_fck at hi
  dsimp only at hi
  rw [if_pos hc] at hi
  split at hi
  · rename_i C T N hv
    simp only [Bool.and_eq_true, Bool.or_eq_true, decide_eq_true_eq] at hi
    obtain ⟨⟨⟨⟨⟨h1, h2⟩, h3⟩, h4⟩, h5⟩, h6⟩ := hi
    subst h1
    refine ⟨C, T, hv, h2, pm_is_tb h3, h4, fun z => ?_, fun z => ?_, fun z => ?_⟩
    · rw [z] at h5 h6
      exact ⟨by simpa using h6, h5.resolve_left (by decide)⟩
    · rw [z] at h5 h6
      exact ⟨by simpa using h6, h5.resolve_left (by decide)⟩
    · rw [z] at h5 h6
      exact ⟨by simpa using h6, h5.resolve_left (by decide)⟩
  · cases hi
theorem tf_fls {m idx k : Nat} (h : pm_lk (pm_nth pm_F (pm_own m) []) idx = some (60, k)) : (k = 0 → Cond.fieldLink (pm_on m) idx "java/lang/String" "value" "[B" ∈ pm_tb) ∧ (k = 1 → Cond.fieldLink (pm_on m) idx "java/lang/String" "coder" "B" ∈ pm_tb) := by
  obtain ⟨i, hi⟩ := pm_tab2 F2_eq (N := 17) (by decide) fck_all h
  unfold pm_fck at hi
  dsimp only at hi
  rw [if_neg (by decide), if_pos rfl] at hi
  refine ⟨fun z => ?_, fun z => ?_⟩
  · rw [if_pos z] at hi
    exact pm_is_tb hi
  · rw [if_neg (by omega), if_pos z] at hi
    exact pm_is_tb hi
theorem ci_all : (List.range 17).all (fun w => (pm_CI2.getD w []).all (fun q => pm_is q.2 (Cond.constant (pm_own2 w) q.1.1 q.1.2))) = true := by decide +kernel
theorem CI2_eq : pm_CI = pm_CI2.map (fun l => l.map Prod.fst) := by rfl
theorem tf_ci {m idx : Nat} {v : Int32} (h : pm_lk (pm_nth pm_CI (pm_own m) []) idx = some v) : Cond.constant (pm_on m) idx v ∈ pm_tb := by
  obtain ⟨i, hi⟩ := pm_tab2 (chk := fun w q => pm_is q.2 (Cond.constant (pm_own2 w) q.1.1 q.1.2)) CI2_eq (N := 17) (by decide) ci_all h
  exact pm_is_tb hi
theorem cl_all : (List.range 17).all (fun w => (pm_CL2.getD w []).all (fun q => pm_is q.2 (Cond.constantLong (pm_own2 w) q.1.1 q.1.2))) = true := by decide +kernel
theorem CL2_eq : pm_CL = pm_CL2.map (fun l => l.map Prod.fst) := by rfl
theorem tf_cl {m idx : Nat} {v : Int64} (h : pm_lk (pm_nth pm_CL (pm_own m) []) idx = some v) : Cond.constantLong (pm_on m) idx v ∈ pm_tb := by
  obtain ⟨i, hi⟩ := pm_tab2 (chk := fun w q => pm_is q.2 (Cond.constantLong (pm_own2 w) q.1.1 q.1.2)) CL2_eq (N := 17) (by decide) cl_all h
  exact pm_is_tb hi
theorem gs_all : (List.range 17).all (fun w => (pm_G2.getD w []).all (fun q => pm_is q.2 (Cond.fieldLink (pm_own2 w) q.1.1 (pm_sf q.1.2).1 (pm_sf q.1.2).2.1 (pm_sf q.1.2).2.2))) = true := by decide +kernel
theorem G2_eq : pm_G = pm_G2.map (fun l => l.map Prod.fst) := by rfl
theorem tf_gst {m idx n : Nat} (h : pm_lk (pm_nth pm_G (pm_own m) []) idx = some n) : Cond.fieldLink (pm_on m) idx (pm_sf n).1 (pm_sf n).2.1 (pm_sf n).2.2 ∈ pm_tb := by
  obtain ⟨i, hi⟩ := pm_tab2 (chk := fun w q => pm_is q.2 (Cond.fieldLink (pm_own2 w) q.1.1 (pm_sf q.1.2).1 (pm_sf q.1.2).2.1 (pm_sf q.1.2).2.2)) G2_eq (N := 17) (by decide) gs_all h
  exact pm_is_tb hi

def pm_CS2 : List (List ((Nat × Nat) × Nat)) := [[], [], [], [], [((139, 0), 0), ((141, 1), 0), ((143, 2), 0), ((145, 3), 0), ((147, 4), 0), ((149, 5), 0), ((151, 6), 0), ((153, 7), 0), ((155, 8), 0), ((157, 9), 0), ((159, 10), 0), ((161, 11), 0), ((163, 12), 0), ((165, 13), 0), ((167, 14), 0), ((169, 15), 0), ((171, 16), 0), ((173, 17), 0), ((175, 18), 0), ((177, 19), 0), ((179, 20), 0)], [], [], [], [], [], [], [], [], [], [], []]
theorem cs_all : (List.range 17).all (fun w => (pm_CS2.getD w []).all (fun q => decide (q.1.2 < 21) && decide (pm_own2 w = "IllLight$Reader") && decide ((pm_ST q.1.2).1 = q.1.1))) = true := by decide +kernel
theorem CS2_eq : pm_CS = pm_CS2.map (fun l => l.map Prod.fst) := by rfl
theorem tf_cs {m idx i : Nat} (h : pm_lk (pm_nth pm_CS (pm_own m) []) idx = some i) : i < 21 ∧ pm_on m = "IllLight$Reader" ∧ (pm_ST i).1 = idx := by
  obtain ⟨j, hi⟩ := pm_tab2 (chk := fun w q => decide (q.1.2 < 21) && decide (pm_own2 w = "IllLight$Reader") && decide ((pm_ST q.1.2).1 = q.1.1)) CS2_eq (N := 17) (by decide) cs_all h
  simp only [Bool.and_eq_true, decide_eq_true_eq] at hi
  exact ⟨hi.1.1, hi.1.2, hi.2⟩
def pm_lck (w : Nat) (q : (Nat × Nat) × Nat) : Bool := if q.1.2 = 1000 then pm_is q.2 (Cond.methodLink (pm_own2 w) q.1.1 arraycopyName) else if q.1.2 = 1001 then pm_is q.2 (Cond.methodLink (pm_own2 w) q.1.1 Lib.Math.abs.name) else if q.1.2 = 1002 then pm_is q.2 (Cond.methodLink (pm_own2 w) q.1.1 Lib.Math.max.name) else if q.1.2 = 1003 then pm_is q.2 (Cond.methodLink (pm_own2 w) q.1.1 Lib.Math.min.name) else decide (q.1.2 < 276) && pm_is q.2 (Cond.methodLink (pm_own2 w) q.1.1 (pm_y q.1.2))
theorem L2_eq : pm_L = pm_L2.map (fun l => l.map Prod.fst) := by rfl

theorem lck_0 : (pm_L2.getD 0 []).all (pm_lck 0) = true := by decide +kernel
theorem lck_1 : (pm_L2.getD 1 []).all (pm_lck 1) = true := by decide +kernel
theorem lck_2 : (pm_L2.getD 2 []).all (pm_lck 2) = true := by decide +kernel
theorem lck_3 : (pm_L2.getD 3 []).all (pm_lck 3) = true := by decide +kernel
theorem lck_4 : (pm_L2.getD 4 []).all (pm_lck 4) = true := by decide +kernel
theorem lck_5 : (pm_L2.getD 5 []).all (pm_lck 5) = true := by decide +kernel
theorem lck_6 : (pm_L2.getD 6 []).all (pm_lck 6) = true := by decide +kernel
theorem lck_7 : (pm_L2.getD 7 []).all (pm_lck 7) = true := by decide +kernel
theorem lck_8 : (pm_L2.getD 8 []).all (pm_lck 8) = true := by decide +kernel
theorem lck_9 : (pm_L2.getD 9 []).all (pm_lck 9) = true := by decide +kernel
theorem lck_10 : (pm_L2.getD 10 []).all (pm_lck 10) = true := by decide +kernel
theorem lck_11 : (pm_L2.getD 11 []).all (pm_lck 11) = true := by decide +kernel
theorem lck_12 : (pm_L2.getD 12 []).all (pm_lck 12) = true := by decide +kernel
theorem lck_13 : (pm_L2.getD 13 []).all (pm_lck 13) = true := by decide +kernel
theorem lck_14 : (pm_L2.getD 14 []).all (pm_lck 14) = true := by decide +kernel
theorem lck_15 : (pm_L2.getD 15 []).all (pm_lck 15) = true := by decide +kernel
theorem lck_16 : (pm_L2.getD 16 []).all (pm_lck 16) = true := by decide +kernel
theorem lck_all : (List.range 17).all (fun w => (pm_L2.getD w []).all (pm_lck w)) = true := by
  rw [List.all_eq_true]
  intro w hw
  have hw := List.mem_range.mp hw
  match w, hw with
  | 0, _ => exact lck_0
  | 1, _ => exact lck_1
  | 2, _ => exact lck_2
  | 3, _ => exact lck_3
  | 4, _ => exact lck_4
  | 5, _ => exact lck_5
  | 6, _ => exact lck_6
  | 7, _ => exact lck_7
  | 8, _ => exact lck_8
  | 9, _ => exact lck_9
  | 10, _ => exact lck_10
  | 11, _ => exact lck_11
  | 12, _ => exact lck_12
  | 13, _ => exact lck_13
  | 14, _ => exact lck_14
  | 15, _ => exact lck_15
  | 16, _ => exact lck_16
  | n + 17, h => exact absurd h (by omega)
def pm_mck (m : Nat) : Bool := match pm_MW.getD m (0, 0, 0, 0) with
  | (a, b, c, d) => pm_is b (Cond.initialized (pm_y m).cls) && plainName (pm_y m).cls && decide (pm_on m = (pm_y m).cls) && decide ((pm_y m).cls ≠ "java/lang/invoke/MethodHandle" ∧ (pm_y m).cls ≠ "java/lang/invoke/VarHandle") && (if pm_cls m = 0 then pm_is c (Cond.static (pm_y m)) && decide ((parseMethodDescriptor (pm_y m).desc).map (fun d => d.parameters.length) = some (pm_na m)) else decide (pm_cls m ≤ 9 ∨ pm_cls m = 61) && pm_is c (Cond.instanceMethod (pm_y m)) && pm_is d (Cond.selects (pm_cn m) (pm_y m) (pm_y m)) && decide ((pm_y m).cls = pm_cn m) && decide ((parseMethodDescriptor (pm_y m).desc).map (fun d => d.parameters.length + 1) = some (pm_na m)))
end
section
/-! the methods, each against its words -/
theorem cw_0 : Cond.code ⟨"IllLight$Coast", "clear", "()V"⟩ prog_2_method_2_code 1 none ∈ pm_tb := List.mem_filter.mpr ⟨(List.mem_append_right (k2_sels lw_privs) (List.mem_append_right _ (List.mem_append_left _ (List.mem_of_getElem? (l := tables_1_2) (i := 130) rfl)))), rfl⟩
theorem cw_1 : Cond.code ⟨"IllLight$Coast", "copyFrom", "(LIllLight$Coast;)V"⟩ prog_2_method_3_code 2 none ∈ pm_tb := List.mem_filter.mpr ⟨(List.mem_append_right (k2_sels lw_privs) (List.mem_append_right _ (List.mem_append_right _ (List.mem_append_left _ (List.mem_of_getElem? (l := tables_1_3) (i := 76) rfl))))), rfl⟩
theorem cw_2 : Cond.code ⟨"IllLight$Coast", "addGuard", "(II)V"⟩ prog_2_method_4_code 3 none ∈ pm_tb := List.mem_filter.mpr ⟨(List.mem_append_right (k2_sels lw_privs) (List.mem_append_right _ (List.mem_append_right _ (List.mem_append_left _ (List.mem_of_getElem? (l := tables_1_3) (i := 59) rfl))))), rfl⟩
theorem cw_3 : Cond.code ⟨"IllLight$Coast", "addShip", "(III)V"⟩ prog_2_method_5_code 4 none ∈ pm_tb := List.mem_filter.mpr ⟨(List.mem_append_right (k2_sels lw_privs) (List.mem_append_right _ (List.mem_append_right _ (List.mem_append_left _ (List.mem_of_getElem? (l := tables_1_3) (i := 63) rfl))))), rfl⟩
theorem cw_4 : Cond.code ⟨"IllLight$Coast", "addMan", "(III)V"⟩ prog_2_method_6_code 6 none ∈ pm_tb := List.mem_filter.mpr ⟨(List.mem_append_right (k2_sels lw_privs) (List.mem_append_right _ (List.mem_append_right _ (List.mem_append_left _ (List.mem_of_getElem? (l := tables_1_3) (i := 50) rfl))))), rfl⟩
theorem cw_5 : Cond.code ⟨"IllLight$Coast", "hasShip", "(I)Z"⟩ prog_2_method_7_code 2 (some .boolean) ∈ pm_tb := List.mem_filter.mpr ⟨(List.mem_append_right (k2_sels lw_privs) (List.mem_append_right _ (List.mem_append_right _ (List.mem_append_left _ (List.mem_of_getElem? (l := tables_1_3) (i := 1) rfl))))), rfl⟩
theorem cw_6 : Cond.code ⟨"IllLight$Coast", "hasMan", "(II)Z"⟩ prog_2_method_8_code 3 (some .boolean) ∈ pm_tb := List.mem_filter.mpr ⟨(List.mem_append_right (k2_sels lw_privs) (List.mem_append_right _ (List.mem_append_right _ (List.mem_append_left _ (List.mem_of_getElem? (l := tables_1_3) (i := 135) rfl))))), rfl⟩
theorem cw_7 : Cond.code ⟨"IllLight$Coast", "cells", "()I"⟩ prog_2_method_9_code 1 (some .int) ∈ pm_tb := List.mem_filter.mpr ⟨(List.mem_append_right (k2_sels lw_privs) (List.mem_append_right _ (List.mem_append_right _ (List.mem_append_left _ (List.mem_of_getElem? (l := tables_1_3) (i := 127) rfl))))), rfl⟩
theorem cw_8 : Cond.code ⟨"IllLight$Coast", "spotOf", "(I)I"⟩ prog_2_method_10_code 2 (some .int) ∈ pm_tb := List.mem_filter.mpr ⟨(List.mem_append_right (k2_sels lw_privs) (List.mem_append_right _ (List.mem_append_right _ (List.mem_append_left _ (List.mem_of_getElem? (l := tables_1_3) (i := 123) rfl))))), rfl⟩
theorem cw_9 : Cond.code ⟨"IllLight$Coast", "cellOf", "(I)I"⟩ prog_2_method_11_code 2 (some .int) ∈ pm_tb := List.mem_filter.mpr ⟨(List.mem_append_right (k2_sels lw_privs) (List.mem_append_right _ (List.mem_append_right _ (List.mem_append_left _ (List.mem_of_getElem? (l := tables_1_3) (i := 111) rfl))))), rfl⟩
theorem cw_10 : Cond.code ⟨"IllLight$Coast", "board", "()J"⟩ prog_2_method_12_code 6 (some .long) ∈ pm_tb := List.mem_filter.mpr ⟨(List.mem_append_right (k2_sels lw_privs) (List.mem_append_right _ (List.mem_append_right _ (List.mem_append_left _ (List.mem_of_getElem? (l := tables_1_3) (i := 223) rfl))))), rfl⟩
theorem cw_11 : Cond.code ⟨"IllLight$Coast", "guarded", "()J"⟩ prog_2_method_13_code 6 (some .long) ∈ pm_tb := List.mem_filter.mpr ⟨(List.mem_append_right (k2_sels lw_privs) (List.mem_append_right _ (List.mem_append_right _ (List.mem_append_left _ (List.mem_of_getElem? (l := tables_1_3) (i := 219) rfl))))), rfl⟩
theorem cw_12 : Cond.code ⟨"IllLight$Coast", "told", "(I)I"⟩ prog_2_method_14_code 2 (some .int) ∈ pm_tb := List.mem_filter.mpr ⟨(List.mem_append_right (k2_sels lw_privs) (List.mem_append_right _ (List.mem_append_right _ (List.mem_append_left _ (List.mem_of_getElem? (l := tables_1_3) (i := 107) rfl))))), rfl⟩
theorem cw_13 : Cond.code ⟨"IllLight$Coast", "toldOfOne", "(II)I"⟩ prog_2_method_15_code 3 (some .int) ∈ pm_tb := List.mem_filter.mpr ⟨(List.mem_append_right (k2_sels lw_privs) (List.mem_append_right _ (List.mem_append_right _ (List.mem_append_left _ (List.mem_of_getElem? (l := tables_1_3) (i := 115) rfl))))), rfl⟩
theorem cw_14 : Cond.code ⟨"IllLight$Coast", "toldOfRock", "(I)I"⟩ prog_2_method_16_code 3 (some .int) ∈ pm_tb := List.mem_filter.mpr ⟨(List.mem_append_right (k2_sels lw_privs) (List.mem_append_right _ (List.mem_append_right _ (List.mem_append_left _ (List.mem_of_getElem? (l := tables_1_3) (i := 119) rfl))))), rfl⟩
theorem cw_15 : Cond.code ⟨"IllLight$Coast", "meant", "(III)I"⟩ prog_2_method_17_code 6 (some .int) ∈ pm_tb := List.mem_filter.mpr ⟨(List.mem_append_right (k2_sels lw_privs) (List.mem_append_right _ (List.mem_append_right _ (List.mem_append_left _ (List.mem_of_getElem? (l := tables_1_3) (i := 163) rfl))))), rfl⟩
theorem cw_16 : Cond.code ⟨"IllLight$Coast", "harm", "(II)I"⟩ prog_2_method_18_code 5 (some .int) ∈ pm_tb := List.mem_filter.mpr ⟨(List.mem_append_right (k2_sels lw_privs) (List.mem_append_right _ (List.mem_append_right _ (List.mem_append_left _ (List.mem_of_getElem? (l := tables_1_3) (i := 159) rfl))))), rfl⟩
theorem cw_17 : Cond.code ⟨"IllLight$Coast", "glow", "(II)I"⟩ prog_2_method_19_code 4 (some .int) ∈ pm_tb := List.mem_filter.mpr ⟨(List.mem_append_right (k2_sels lw_privs) (List.mem_append_right _ (List.mem_append_right _ (List.mem_append_left _ (List.mem_of_getElem? (l := tables_1_3) (i := 168) rfl))))), rfl⟩
theorem cw_18 : Cond.code ⟨"IllLight$Coast", "isLit", "(II)Z"⟩ prog_2_method_20_code 2 (some .boolean) ∈ pm_tb := List.mem_filter.mpr ⟨(List.mem_append_right (k2_sels lw_privs) (List.mem_append_right _ (List.mem_append_right _ (List.mem_append_left _ (List.mem_of_getElem? (l := tables_1_3) (i := 172) rfl))))), rfl⟩
theorem cw_19 : Cond.code ⟨"IllLight$Coast", "hoursOf", "(II)I"⟩ prog_2_method_21_code 5 (some .int) ∈ pm_tb := List.mem_filter.mpr ⟨(List.mem_append_right (k2_sels lw_privs) (List.mem_append_right _ (List.mem_append_right _ (List.mem_append_right _ (List.mem_append_right _ (List.mem_append_left _ (List.mem_of_getElem? (l := tables_1_5) (i := 26) rfl))))))), rfl⟩
theorem cw_20 : Cond.code ⟨"IllLight$Coast", "litHours", "(I)I"⟩ prog_2_method_22_code 4 (some .int) ∈ pm_tb := List.mem_filter.mpr ⟨(List.mem_append_right (k2_sels lw_privs) (List.mem_append_right _ (List.mem_append_right _ (List.mem_append_right _ (List.mem_append_left _ (List.mem_of_getElem? (l := tables_1_4) (i := 49) rfl)))))), rfl⟩
theorem cw_21 : Cond.code ⟨"IllLight$Coast", "worstHour", "(I)I"⟩ prog_2_method_23_code 4 (some .int) ∈ pm_tb := List.mem_filter.mpr ⟨(List.mem_append_right (k2_sels lw_privs) (List.mem_append_right _ (List.mem_append_right _ (List.mem_append_right _ (List.mem_append_right _ (List.mem_append_left _ (List.mem_of_getElem? (l := tables_1_5) (i := 34) rfl))))))), rfl⟩
theorem cw_22 : Cond.code ⟨"IllLight$Coast", "mutineers", "(II)I"⟩ prog_2_method_24_code 5 (some .int) ∈ pm_tb := List.mem_filter.mpr ⟨(List.mem_append_right (k2_sels lw_privs) (List.mem_append_right _ (List.mem_append_right _ (List.mem_append_right _ (List.mem_append_right _ (List.mem_append_left _ (List.mem_of_getElem? (l := tables_1_5) (i := 91) rfl))))))), rfl⟩
theorem cw_23 : Cond.code ⟨"IllLight$Coast", "worstMan", "(II)I"⟩ prog_2_method_25_code 5 (some .int) ∈ pm_tb := List.mem_filter.mpr ⟨(List.mem_append_right (k2_sels lw_privs) (List.mem_append_right _ (List.mem_append_right _ (List.mem_append_right _ (List.mem_append_right _ (List.mem_append_left _ (List.mem_of_getElem? (l := tables_1_5) (i := 87) rfl))))))), rfl⟩
theorem cw_24 : Cond.code ⟨"IllLight$Coast", "side", "(I)I"⟩ prog_2_method_26_code 4 (some .int) ∈ pm_tb := List.mem_filter.mpr ⟨(List.mem_append_right (k2_sels lw_privs) (List.mem_append_right _ (List.mem_append_right _ (List.mem_append_left _ (List.mem_of_getElem? (l := tables_1_3) (i := 206) rfl))))), rfl⟩
theorem cw_25 : Cond.code ⟨"IllLight$Coast", "fromLamp", "(I)I"⟩ prog_2_method_27_code 2 (some .int) ∈ pm_tb := List.mem_filter.mpr ⟨(List.mem_append_right (k2_sels lw_privs) (List.mem_append_right _ (List.mem_append_right _ (List.mem_append_left _ (List.mem_of_getElem? (l := tables_1_3) (i := 210) rfl))))), rfl⟩
theorem cw_26 : Cond.code ⟨"IllLight$Coast", "shaded", "(I)I"⟩ prog_2_method_28_code 2 (some .int) ∈ pm_tb := List.mem_filter.mpr ⟨(List.mem_append_right (k2_sels lw_privs) (List.mem_append_right _ (List.mem_append_right _ (List.mem_append_right _ (List.mem_append_right _ (List.mem_append_left _ (List.mem_of_getElem? (l := tables_1_5) (i := 42) rfl))))))), rfl⟩
theorem cw_27 : Cond.code ⟨"IllLight$Coast", "makePlain", "(III)V"⟩ prog_2_method_29_code 4 none ∈ pm_tb := List.mem_filter.mpr ⟨(List.mem_append_right (k2_sels lw_privs) (List.mem_append_right _ (List.mem_append_right _ (List.mem_append_right _ (List.mem_append_left _ (List.mem_of_getElem? (l := tables_1_4) (i := 4) rfl)))))), rfl⟩
theorem cw_28 : Cond.code ⟨"IllLight$Coast", "lull", "(II)V"⟩ prog_2_method_30_code 4 none ∈ pm_tb := List.mem_filter.mpr ⟨(List.mem_append_right (k2_sels lw_privs) (List.mem_append_right _ (List.mem_append_right _ (List.mem_append_right _ (List.mem_append_left _ (List.mem_of_getElem? (l := tables_1_4) (i := 96) rfl)))))), rfl⟩
theorem cw_29 : Cond.code ⟨"IllLight$Course", "begin", "(LIllLight$Coast;)V"⟩ prog_3_method_2_code 2 none ∈ pm_tb := List.mem_filter.mpr ⟨(List.mem_append_right (k2_sels lw_privs) (List.mem_append_right _ (List.mem_append_right _ (List.mem_append_left _ (List.mem_of_getElem? (l := tables_1_3) (i := 185) rfl))))), rfl⟩
theorem cw_30 : Cond.code ⟨"IllLight$Course", "follow", "(LIllLight$Coast;LIllLight$Night;I)I"⟩ prog_3_method_3_code 8 (some .int) ∈ pm_tb := List.mem_filter.mpr ⟨(List.mem_append_right (k2_sels lw_privs) (List.mem_append_right _ (List.mem_append_right _ (List.mem_append_left _ (List.mem_of_getElem? (l := tables_1_3) (i := 181) rfl))))), rfl⟩
theorem cw_31 : Cond.code ⟨"IllLight$Course", "draw", "(LIllLight$Coast;II)V"⟩ prog_3_method_4_code 9 none ∈ pm_tb := List.mem_filter.mpr ⟨(List.mem_append_right (k2_sels lw_privs) (List.mem_append_right _ (List.mem_append_right _ (List.mem_append_right _ (List.mem_append_right _ (List.mem_append_left _ (List.mem_of_getElem? (l := tables_1_5) (i := 13) rfl))))))), rfl⟩
theorem cw_32 : Cond.code ⟨"IllLight$Course", "below", "(I)I"⟩ prog_3_method_5_code 2 (some .int) ∈ pm_tb := List.mem_filter.mpr ⟨(List.mem_append_right (k2_sels lw_privs) (List.mem_append_right _ (List.mem_append_right _ (List.mem_append_right _ (List.mem_append_right _ (List.mem_append_left _ (List.mem_of_getElem? (l := tables_1_5) (i := 17) rfl))))))), rfl⟩
theorem cw_33 : Cond.code ⟨"IllLight$Course", "act", "(IIII)Z"⟩ prog_3_method_6_code 5 (some .boolean) ∈ pm_tb := List.mem_filter.mpr ⟨(List.mem_append_right (k2_sels lw_privs) (List.mem_append_right _ (List.mem_append_right _ (List.mem_append_left _ (List.mem_of_getElem? (l := tables_1_3) (i := 235) rfl))))), rfl⟩
theorem cw_34 : Cond.code ⟨"IllLight$Course", "isLost", "(I)Z"⟩ prog_3_method_7_code 2 (some .boolean) ∈ pm_tb := List.mem_filter.mpr ⟨(List.mem_append_right (k2_sels lw_privs) (List.mem_append_right _ (List.mem_append_right _ (List.mem_append_left _ (List.mem_of_getElem? (l := tables_1_3) (i := 198) rfl))))), rfl⟩
theorem cw_35 : Cond.code ⟨"IllLight$Course", "sail", "(II)Z"⟩ prog_3_method_8_code 5 (some .boolean) ∈ pm_tb := List.mem_filter.mpr ⟨(List.mem_append_right (k2_sels lw_privs) (List.mem_append_right _ (List.mem_append_right _ (List.mem_append_right _ (List.mem_append_left _ (List.mem_of_getElem? (l := tables_1_4) (i := 0) rfl)))))), rfl⟩
theorem cw_36 : Cond.code ⟨"IllLight$Course", "throwOut", "(I)Z"⟩ prog_3_method_9_code 2 (some .boolean) ∈ pm_tb := List.mem_filter.mpr ⟨(List.mem_append_right (k2_sels lw_privs) (List.mem_append_right _ (List.mem_append_right _ (List.mem_append_right _ (List.mem_append_left _ (List.mem_of_getElem? (l := tables_1_4) (i := 10) rfl)))))), rfl⟩
theorem cw_37 : Cond.code ⟨"IllLight$Course", "pass", "()Z"⟩ prog_3_method_10_code 8 (some .boolean) ∈ pm_tb := List.mem_filter.mpr ⟨(List.mem_append_right (k2_sels lw_privs) (List.mem_append_right _ (List.mem_append_right _ (List.mem_append_left _ (List.mem_of_getElem? (l := tables_1_3) (i := 190) rfl))))), rfl⟩
theorem cw_38 : Cond.code ⟨"IllLight$Course", "beam", "()I"⟩ prog_3_method_11_code 3 (some .int) ∈ pm_tb := List.mem_filter.mpr ⟨(List.mem_append_right (k2_sels lw_privs) (List.mem_append_right _ (List.mem_append_right _ (List.mem_append_left _ (List.mem_of_getElem? (l := tables_1_3) (i := 194) rfl))))), rfl⟩
theorem cw_39 : Cond.code ⟨"IllLight$Course", "whoseLight", "(I)I"⟩ prog_3_method_12_code 5 (some .int) ∈ pm_tb := List.mem_filter.mpr ⟨(List.mem_append_right (k2_sels lw_privs) (List.mem_append_right _ (List.mem_append_right _ (List.mem_append_left _ (List.mem_of_getElem? (l := tables_1_3) (i := 202) rfl))))), rfl⟩
theorem cw_40 : Cond.code ⟨"IllLight$Course", "told", "(I)I"⟩ prog_3_method_13_code 2 (some .int) ∈ pm_tb := List.mem_filter.mpr ⟨(List.mem_append_right (k2_sels lw_privs) (List.mem_append_right _ (List.mem_append_right _ (List.mem_append_right _ (List.mem_append_left _ (List.mem_of_getElem? (l := tables_1_4) (i := 18) rfl)))))), rfl⟩
theorem cw_41 : Cond.code ⟨"IllLight$Course", "toldOfShip", "(II)I"⟩ prog_3_method_14_code 3 (some .int) ∈ pm_tb := List.mem_filter.mpr ⟨(List.mem_append_right (k2_sels lw_privs) (List.mem_append_right _ (List.mem_append_right _ (List.mem_append_right _ (List.mem_append_left _ (List.mem_of_getElem? (l := tables_1_4) (i := 22) rfl)))))), rfl⟩
theorem cw_42 : Cond.code ⟨"IllLight$Course", "toldOfMan", "(II)I"⟩ prog_3_method_15_code 3 (some .int) ∈ pm_tb := List.mem_filter.mpr ⟨(List.mem_append_right (k2_sels lw_privs) (List.mem_append_right _ (List.mem_append_right _ (List.mem_append_right _ (List.mem_append_left _ (List.mem_of_getElem? (l := tables_1_4) (i := 28) rfl)))))), rfl⟩
theorem cw_43 : Cond.code ⟨"IllLight$Log", "clear", "()V"⟩ prog_4_method_2_code 1 none ∈ pm_tb := List.mem_filter.mpr ⟨(List.mem_append_right (k2_sels lw_privs) (List.mem_append_right _ (List.mem_append_left _ (List.mem_of_getElem? (l := tables_1_2) (i := 134) rfl)))), rfl⟩
theorem cw_44 : Cond.code ⟨"IllLight$Log", "copyFrom", "(LIllLight$Log;)V"⟩ prog_4_method_3_code 2 none ∈ pm_tb := List.mem_filter.mpr ⟨(List.mem_append_right (k2_sels lw_privs) (List.mem_append_right _ (List.mem_append_right _ (List.mem_append_left _ (List.mem_of_getElem? (l := tables_1_3) (i := 88) rfl))))), rfl⟩
theorem cw_45 : Cond.code ⟨"IllLight$Log", "addMan", "(I)V"⟩ prog_4_method_4_code 2 none ∈ pm_tb := List.mem_filter.mpr ⟨(List.mem_append_right (k2_sels lw_privs) (List.mem_append_right _ (List.mem_append_right _ (List.mem_append_left _ (List.mem_of_getElem? (l := tables_1_3) (i := 35) rfl))))), rfl⟩
theorem cw_46 : Cond.code ⟨"IllLight$Log", "addFact", "(II)V"⟩ prog_4_method_5_code 3 none ∈ pm_tb := List.mem_filter.mpr ⟨(List.mem_append_right (k2_sels lw_privs) (List.mem_append_right _ (List.mem_append_right _ (List.mem_append_left _ (List.mem_of_getElem? (l := tables_1_3) (i := 39) rfl))))), rfl⟩
theorem cw_47 : Cond.code ⟨"IllLight$Log", "hasMan", "(I)Z"⟩ prog_4_method_6_code 2 (some .boolean) ∈ pm_tb := List.mem_filter.mpr ⟨(List.mem_append_right (k2_sels lw_privs) (List.mem_append_right _ (List.mem_append_right _ (List.mem_append_right _ (List.mem_append_left _ (List.mem_of_getElem? (l := tables_1_4) (i := 188) rfl)))))), rfl⟩
theorem cw_48 : Cond.code ⟨"IllLight$Log", "told", "(I)I"⟩ prog_4_method_7_code 2 (some .int) ∈ pm_tb := List.mem_filter.mpr ⟨(List.mem_append_right (k2_sels lw_privs) (List.mem_append_right _ (List.mem_append_right _ (List.mem_append_right _ (List.mem_append_left _ (List.mem_of_getElem? (l := tables_1_4) (i := 180) rfl)))))), rfl⟩
theorem cw_49 : Cond.code ⟨"IllLight$Log", "toldOfOne", "(II)I"⟩ prog_4_method_8_code 3 (some .int) ∈ pm_tb := List.mem_filter.mpr ⟨(List.mem_append_right (k2_sels lw_privs) (List.mem_append_right _ (List.mem_append_right _ (List.mem_append_right _ (List.mem_append_left _ (List.mem_of_getElem? (l := tables_1_4) (i := 184) rfl)))))), rfl⟩
theorem cw_50 : Cond.code ⟨"IllLight$Log", "sets", "()I"⟩ prog_4_method_9_code 1 (some .int) ∈ pm_tb := List.mem_filter.mpr ⟨(List.mem_append_right (k2_sels lw_privs) (List.mem_append_right _ (List.mem_append_right _ (List.mem_append_right _ (List.mem_append_left _ (List.mem_of_getElem? (l := tables_1_4) (i := 200) rfl)))))), rfl⟩
theorem cw_51 : Cond.code ⟨"IllLight$Log", "shines", "(II)Z"⟩ prog_4_method_10_code 4 (some .boolean) ∈ pm_tb := List.mem_filter.mpr ⟨(List.mem_append_right (k2_sels lw_privs) (List.mem_append_right _ (List.mem_append_right _ (List.mem_append_right _ (List.mem_append_left _ (List.mem_of_getElem? (l := tables_1_4) (i := 212) rfl)))))), rfl⟩
theorem cw_52 : Cond.code ⟨"IllLight$Log", "agrees", "(II)Z"⟩ prog_4_method_11_code 3 (some .boolean) ∈ pm_tb := List.mem_filter.mpr ⟨(List.mem_append_right (k2_sels lw_privs) (List.mem_append_right _ (List.mem_append_right _ (List.mem_append_right _ (List.mem_append_left _ (List.mem_of_getElem? (l := tables_1_4) (i := 208) rfl)))))), rfl⟩
theorem cw_53 : Cond.code ⟨"IllLight$Log", "allAgree", "(I)Z"⟩ prog_4_method_12_code 3 (some .boolean) ∈ pm_tb := List.mem_filter.mpr ⟨(List.mem_append_right (k2_sels lw_privs) (List.mem_append_right _ (List.mem_append_right _ (List.mem_append_right _ (List.mem_append_left _ (List.mem_of_getElem? (l := tables_1_4) (i := 204) rfl)))))), rfl⟩
theorem cw_54 : Cond.code ⟨"IllLight$Log", "fitting", "()J"⟩ prog_4_method_13_code 4 (some .long) ∈ pm_tb := List.mem_filter.mpr ⟨(List.mem_append_right (k2_sels lw_privs) (List.mem_append_right _ (List.mem_append_right _ (List.mem_append_right _ (List.mem_append_left _ (List.mem_of_getElem? (l := tables_1_4) (i := 196) rfl)))))), rfl⟩
theorem cw_55 : Cond.code ⟨"IllLight$Log", "sure", "(J)I"⟩ prog_4_method_14_code 5 (some .int) ∈ pm_tb := List.mem_filter.mpr ⟨(List.mem_append_right (k2_sels lw_privs) (List.mem_append_right _ (List.mem_append_right _ (List.mem_append_right _ (List.mem_append_left _ (List.mem_of_getElem? (l := tables_1_4) (i := 218) rfl)))))), rfl⟩
theorem cw_56 : Cond.code ⟨"IllLight$Log", "setAt", "(JI)I"⟩ prog_4_method_15_code 6 (some .int) ∈ pm_tb := List.mem_filter.mpr ⟨(List.mem_append_right (k2_sels lw_privs) (List.mem_append_right _ (List.mem_append_right _ (List.mem_append_right _ (List.mem_append_left _ (List.mem_of_getElem? (l := tables_1_4) (i := 232) rfl)))))), rfl⟩
theorem cw_57 : Cond.code ⟨"IllLight$Log", "hourToAsk", "(J)I"⟩ prog_4_method_16_code 9 (some .int) ∈ pm_tb := List.mem_filter.mpr ⟨(List.mem_append_right (k2_sels lw_privs) (List.mem_append_right _ (List.mem_append_right _ (List.mem_append_right _ (List.mem_append_left _ (List.mem_of_getElem? (l := tables_1_4) (i := 222) rfl)))))), rfl⟩
theorem cw_58 : Cond.code ⟨"IllLight$Log", "shiningAt", "(I)J"⟩ prog_4_method_17_code 5 (some .long) ∈ pm_tb := List.mem_filter.mpr ⟨(List.mem_append_right (k2_sels lw_privs) (List.mem_append_right _ (List.mem_append_right _ (List.mem_append_right _ (List.mem_append_left _ (List.mem_of_getElem? (l := tables_1_4) (i := 227) rfl)))))), rfl⟩
theorem cw_59 : Cond.code ⟨"IllLight$Log", "weightOf", "(II)J"⟩ prog_4_method_18_code 6 (some .long) ∈ pm_tb := List.mem_filter.mpr ⟨(List.mem_append_right (k2_sels lw_privs) (List.mem_append_right _ (List.mem_append_right _ (List.mem_append_right _ (List.mem_append_right _ (List.mem_append_left _ (List.mem_of_getElem? (l := tables_1_5) (i := 1) rfl))))))), rfl⟩
theorem cw_60 : Cond.code ⟨"IllLight$Log", "weight", "(I)J"⟩ prog_4_method_19_code 5 (some .long) ∈ pm_tb := List.mem_filter.mpr ⟨(List.mem_append_right (k2_sels lw_privs) (List.mem_append_right _ (List.mem_append_right _ (List.mem_append_right _ (List.mem_append_right _ (List.mem_append_left _ (List.mem_of_getElem? (l := tables_1_5) (i := 5) rfl))))))), rfl⟩
theorem cw_61 : Cond.code ⟨"IllLight$Night", "add", "(IIII)V"⟩ prog_5_method_2_code 5 none ∈ pm_tb := List.mem_filter.mpr ⟨(List.mem_append_right (k2_sels lw_privs) (List.mem_append_right _ (List.mem_append_right _ (List.mem_append_left _ (List.mem_of_getElem? (l := tables_1_3) (i := 27) rfl))))), rfl⟩
theorem cw_62 : Cond.code ⟨"IllLight$Night", "copyFrom", "(LIllLight$Night;)V"⟩ prog_5_method_3_code 2 none ∈ pm_tb := List.mem_filter.mpr ⟨(List.mem_append_right (k2_sels lw_privs) (List.mem_append_right _ (List.mem_append_right _ (List.mem_append_left _ (List.mem_of_getElem? (l := tables_1_3) (i := 83) rfl))))), rfl⟩
theorem cw_63 : Cond.code ⟨"IllLight$Night", "told", "(II)I"⟩ prog_5_method_4_code 3 (some .int) ∈ pm_tb := List.mem_filter.mpr ⟨(List.mem_append_right (k2_sels lw_privs) (List.mem_append_right _ (List.mem_append_right _ (List.mem_append_left _ (List.mem_of_getElem? (l := tables_1_3) (i := 147) rfl))))), rfl⟩
theorem cw_64 : Cond.code ⟨"IllLight$Reader", "read", "([III)V"⟩ prog_6_method_2_code 5 none ∈ pm_tb := List.mem_filter.mpr ⟨(List.mem_append_right (k2_sels lw_privs) (List.mem_append_right _ (List.mem_append_left _ (List.mem_of_getElem? (l := tables_1_2) (i := 122) rfl)))), rfl⟩
theorem cw_65 : Cond.code ⟨"IllLight$Reader", "begin", "()V"⟩ prog_6_method_3_code 1 none ∈ pm_tb := List.mem_filter.mpr ⟨(List.mem_append_right (k2_sels lw_privs) (List.mem_append_right _ (List.mem_append_left _ (List.mem_of_getElem? (l := tables_1_2) (i := 126) rfl)))), rfl⟩
theorem cw_66 : Cond.code ⟨"IllLight$Reader", "note", "(II)V"⟩ prog_6_method_4_code 3 none ∈ pm_tb := List.mem_filter.mpr ⟨(List.mem_append_right (k2_sels lw_privs) (List.mem_append_right _ (List.mem_append_right _ (List.mem_append_left _ (List.mem_of_getElem? (l := tables_1_3) (i := 8) rfl))))), rfl⟩
theorem cw_67 : Cond.code ⟨"IllLight$Reader", "advance", "([II)V"⟩ prog_6_method_5_code 3 none ∈ pm_tb := List.mem_filter.mpr ⟨(List.mem_append_right (k2_sels lw_privs) (List.mem_append_right _ (List.mem_append_left _ (List.mem_of_getElem? (l := tables_1_2) (i := 138) rfl)))), rfl⟩
theorem cw_68 : Cond.code ⟨"IllLight$Reader", "isLetter", "(I)Z"⟩ prog_6_method_6_code 1 (some .boolean) ∈ pm_tb := List.mem_filter.mpr ⟨(List.mem_append_right (k2_sels lw_privs) (List.mem_append_right _ (List.mem_append_left _ (List.mem_of_getElem? (l := tables_1_2) (i := 141) rfl)))), rfl⟩
theorem cw_69 : Cond.code ⟨"IllLight$Reader", "isDigit", "(I)Z"⟩ prog_6_method_7_code 1 (some .boolean) ∈ pm_tb := List.mem_filter.mpr ⟨(List.mem_append_right (k2_sels lw_privs) (List.mem_append_right _ (List.mem_append_left _ (List.mem_of_getElem? (l := tables_1_2) (i := 144) rfl)))), rfl⟩
theorem cw_70 : Cond.code ⟨"IllLight$Reader", "readLine", "([III)Z"⟩ prog_6_method_8_code 6 (some .boolean) ∈ pm_tb := List.mem_filter.mpr ⟨(List.mem_append_right (k2_sels lw_privs) (List.mem_append_right _ (List.mem_append_left _ (List.mem_of_getElem? (l := tables_1_2) (i := 148) rfl)))), rfl⟩
theorem cw_71 : Cond.code ⟨"IllLight$Reader", "wordHere", "([II)I"⟩ prog_6_method_9_code 4 (some .int) ∈ pm_tb := List.mem_filter.mpr ⟨(List.mem_append_right (k2_sels lw_privs) (List.mem_append_right _ (List.mem_append_left _ (List.mem_of_getElem? (l := tables_1_2) (i := 152) rfl)))), rfl⟩
theorem cw_72 : Cond.code ⟨"IllLight$Reader", "isHere", "([ILjava/lang/String;)Z"⟩ prog_6_method_10_code 4 (some .boolean) ∈ pm_tb := List.mem_filter.mpr ⟨(List.mem_append_right (k2_sels lw_privs) (List.mem_append_right _ (List.mem_append_left _ (List.mem_of_getElem? (l := tables_1_2) (i := 182) rfl)))), rfl⟩
theorem cw_73 : Cond.code ⟨"IllLight$Reader", "nameOf", "(I)Ljava/lang/String;"⟩ prog_6_method_11_code 1 (some (.object "java/lang/String")) ∈ pm_tb := List.mem_filter.mpr ⟨(List.mem_append_right (k2_sels lw_privs) (List.mem_append_right _ (List.mem_append_left _ (List.mem_of_getElem? (l := tables_1_2) (i := 157) rfl)))), rfl⟩
theorem cw_74 : Cond.code ⟨"IllLight$Reader", "numberHere", "([I)I"⟩ prog_6_method_12_code 4 (some .int) ∈ pm_tb := List.mem_filter.mpr ⟨(List.mem_append_right (k2_sels lw_privs) (List.mem_append_right _ (List.mem_append_right _ (List.mem_append_left _ (List.mem_of_getElem? (l := tables_1_3) (i := 14) rfl))))), rfl⟩
theorem cw_75 : Cond.code ⟨"IllLight$Reader", "least", "(I)I"⟩ prog_6_method_13_code 1 (some .int) ∈ pm_tb := List.mem_filter.mpr ⟨(List.mem_append_right (k2_sels lw_privs) (List.mem_append_right _ (List.mem_append_right _ (List.mem_append_left _ (List.mem_of_getElem? (l := tables_1_3) (i := 17) rfl))))), rfl⟩
theorem cw_76 : Cond.code ⟨"IllLight$Reader", "isKind", "(I)Z"⟩ prog_6_method_14_code 1 (some .boolean) ∈ pm_tb := List.mem_filter.mpr ⟨(List.mem_append_right (k2_sels lw_privs) (List.mem_append_right _ (List.mem_append_left _ (List.mem_of_getElem? (l := tables_1_2) (i := 237) rfl)))), rfl⟩
theorem cw_77 : Cond.code ⟨"IllLight$Reader", "isDeed", "(I)Z"⟩ prog_6_method_15_code 1 (some .boolean) ∈ pm_tb := List.mem_filter.mpr ⟨(List.mem_append_right (k2_sels lw_privs) (List.mem_append_right _ (List.mem_append_right _ (List.mem_append_left _ (List.mem_of_getElem? (l := tables_1_3) (i := 4) rfl))))), rfl⟩
theorem cw_78 : Cond.code ⟨"IllLight$Reader", "noteTooMany", "(I)V"⟩ prog_6_method_16_code 4 none ∈ pm_tb := List.mem_filter.mpr ⟨(List.mem_append_right (k2_sels lw_privs) (List.mem_append_right _ (List.mem_append_left _ (List.mem_of_getElem? (l := tables_1_2) (i := 234) rfl)))), rfl⟩
theorem cw_79 : Cond.code ⟨"IllLight$Reader", "tell", "(I)V"⟩ prog_6_method_17_code 2 none ∈ pm_tb := List.mem_filter.mpr ⟨(List.mem_append_right (k2_sels lw_privs) (List.mem_append_right _ (List.mem_append_right _ (List.mem_append_left _ (List.mem_of_getElem? (l := tables_1_3) (i := 23) rfl))))), rfl⟩
theorem cw_80 : Cond.code ⟨"IllLight$Reader", "tellMan", "(I)V"⟩ prog_6_method_18_code 2 none ∈ pm_tb := List.mem_filter.mpr ⟨(List.mem_append_right (k2_sels lw_privs) (List.mem_append_right _ (List.mem_append_right _ (List.mem_append_left _ (List.mem_of_getElem? (l := tables_1_3) (i := 43) rfl))))), rfl⟩
theorem cw_81 : Cond.code ⟨"IllLight$Reader", "tellCoast", "(I)V"⟩ prog_6_method_19_code 3 none ∈ pm_tb := List.mem_filter.mpr ⟨(List.mem_append_right (k2_sels lw_privs) (List.mem_append_right _ (List.mem_append_right _ (List.mem_append_left _ (List.mem_of_getElem? (l := tables_1_3) (i := 55) rfl))))), rfl⟩
theorem cw_82 : Cond.code ⟨"IllLight$Reader", "tellLog", "(I)V"⟩ prog_6_method_20_code 2 none ∈ pm_tb := List.mem_filter.mpr ⟨(List.mem_append_right (k2_sels lw_privs) (List.mem_append_right _ (List.mem_append_right _ (List.mem_append_left _ (List.mem_of_getElem? (l := tables_1_3) (i := 31) rfl))))), rfl⟩
theorem cw_83 : Cond.code ⟨"IllLight$Reader", "lookForWhatIsNotThere", "(I)V"⟩ prog_6_method_21_code 2 none ∈ pm_tb := List.mem_filter.mpr ⟨(List.mem_append_right (k2_sels lw_privs) (List.mem_append_right _ (List.mem_append_right _ (List.mem_append_left _ (List.mem_of_getElem? (l := tables_1_3) (i := 67) rfl))))), rfl⟩
theorem cw_84 : Cond.code ⟨"IllLight$Rows", "prize", "(LIllLight$Coast;I)I"⟩ prog_7_method_2_code 4 (some .int) ∈ pm_tb := List.mem_filter.mpr ⟨(List.mem_append_right (k2_sels lw_privs) (List.mem_append_right _ (List.mem_append_right _ (List.mem_append_right _ (List.mem_append_left _ (List.mem_of_getElem? (l := tables_1_4) (i := 137) rfl)))))), rfl⟩
theorem cw_85 : Cond.code ⟨"IllLight$Rows", "pirateWins", "(LIllLight$Coast;III)I"⟩ prog_7_method_3_code 4 (some .int) ∈ pm_tb := List.mem_filter.mpr ⟨(List.mem_append_right (k2_sels lw_privs) (List.mem_append_right _ (List.mem_append_right _ (List.mem_append_right _ (List.mem_append_left _ (List.mem_of_getElem? (l := tables_1_4) (i := 133) rfl)))))), rfl⟩
theorem cw_86 : Cond.code ⟨"IllLight$Rows", "guardWins", "(LIllLight$Coast;III)I"⟩ prog_7_method_4_code 4 (some .int) ∈ pm_tb := List.mem_filter.mpr ⟨(List.mem_append_right (k2_sels lw_privs) (List.mem_append_right _ (List.mem_append_right _ (List.mem_append_right _ (List.mem_append_left _ (List.mem_of_getElem? (l := tables_1_4) (i := 153) rfl)))))), rfl⟩
theorem cw_87 : Cond.code ⟨"IllLight$Rows", "isRest", "(LIllLight$Coast;III)Z"⟩ prog_7_method_5_code 7 (some .boolean) ∈ pm_tb := List.mem_filter.mpr ⟨(List.mem_append_right (k2_sels lw_privs) (List.mem_append_right _ (List.mem_append_right _ (List.mem_append_right _ (List.mem_append_left _ (List.mem_of_getElem? (l := tables_1_4) (i := 150) rfl)))))), rfl⟩
theorem cw_88 : Cond.code ⟨"IllLight$Rows", "rests", "(LIllLight$Coast;I)I"⟩ prog_7_method_6_code 4 (some .int) ∈ pm_tb := List.mem_filter.mpr ⟨(List.mem_append_right (k2_sels lw_privs) (List.mem_append_right _ (List.mem_append_right _ (List.mem_append_right _ (List.mem_append_left _ (List.mem_of_getElem? (l := tables_1_4) (i := 147) rfl)))))), rfl⟩
theorem cw_89 : Cond.code ⟨"IllLight$Rows", "restAt", "(LIllLight$Coast;II)I"⟩ prog_7_method_7_code 5 (some .int) ∈ pm_tb := List.mem_filter.mpr ⟨(List.mem_append_right (k2_sels lw_privs) (List.mem_append_right _ (List.mem_append_right _ (List.mem_append_right _ (List.mem_append_left _ (List.mem_of_getElem? (l := tables_1_4) (i := 156) rfl)))))), rfl⟩
theorem cw_90 : Cond.code ⟨"IllLight$Rows", "safest", "(LIllLight$Coast;I)I"⟩ prog_7_method_8_code 4 (some .int) ∈ pm_tb := List.mem_filter.mpr ⟨(List.mem_append_right (k2_sels lw_privs) (List.mem_append_right _ (List.mem_append_right _ (List.mem_append_right _ (List.mem_append_left _ (List.mem_of_getElem? (l := tables_1_4) (i := 127) rfl)))))), rfl⟩
theorem cw_91 : Cond.code ⟨"IllLight$Rows", "leastWon", "(LIllLight$Coast;II)I"⟩ prog_7_method_9_code 5 (some .int) ∈ pm_tb := List.mem_filter.mpr ⟨(List.mem_append_right (k2_sels lw_privs) (List.mem_append_right _ (List.mem_append_right _ (List.mem_append_right _ (List.mem_append_left _ (List.mem_of_getElem? (l := tables_1_4) (i := 130) rfl)))))), rfl⟩
theorem cw_92 : Cond.code ⟨"IllLight$Sea", "spread", "(JJ)J"⟩ prog_8_method_2_code 6 (some .long) ∈ pm_tb := List.mem_filter.mpr ⟨(List.mem_append_right (k2_sels lw_privs) (List.mem_append_right _ (List.mem_append_right _ (List.mem_append_left _ (List.mem_of_getElem? (l := tables_1_3) (i := 229) rfl))))), rfl⟩
theorem cw_93 : Cond.code ⟨"IllLight$Sea", "around", "(IIJ)J"⟩ prog_8_method_3_code 7 (some .long) ∈ pm_tb := List.mem_filter.mpr ⟨(List.mem_append_right (k2_sels lw_privs) (List.mem_append_right _ (List.mem_append_right _ (List.mem_append_left _ (List.mem_of_getElem? (l := tables_1_3) (i := 226) rfl))))), rfl⟩
theorem cw_94 : Cond.code ⟨"IllLight$Sea", "chart", "(LIllLight$Coast;II)V"⟩ prog_8_method_4_code 4 none ∈ pm_tb := List.mem_filter.mpr ⟨(List.mem_append_right (k2_sels lw_privs) (List.mem_append_right _ (List.mem_append_right _ (List.mem_append_right _ (List.mem_append_left _ (List.mem_of_getElem? (l := tables_1_4) (i := 41) rfl)))))), rfl⟩
theorem cw_95 : Cond.code ⟨"IllLight$Sea", "afterHour", "(JII)J"⟩ prog_8_method_5_code 6 (some .long) ∈ pm_tb := List.mem_filter.mpr ⟨(List.mem_append_right (k2_sels lw_privs) (List.mem_append_right _ (List.mem_append_right _ (List.mem_append_right _ (List.mem_append_left _ (List.mem_of_getElem? (l := tables_1_4) (i := 59) rfl)))))), rfl⟩
theorem cw_96 : Cond.code ⟨"IllLight$Sea", "fewest", "(III)I"⟩ prog_8_method_6_code 7 (some .int) ∈ pm_tb := List.mem_filter.mpr ⟨(List.mem_append_right (k2_sels lw_privs) (List.mem_append_right _ (List.mem_append_right _ (List.mem_append_right _ (List.mem_append_left _ (List.mem_of_getElem? (l := tables_1_4) (i := 55) rfl)))))), rfl⟩
theorem cw_97 : Cond.code ⟨"IllLight$Sea", "comes", "(III)Z"⟩ prog_8_method_7_code 4 (some .boolean) ∈ pm_tb := List.mem_filter.mpr ⟨(List.mem_append_right (k2_sels lw_privs) (List.mem_append_right _ (List.mem_append_right _ (List.mem_append_right _ (List.mem_append_left _ (List.mem_of_getElem? (l := tables_1_4) (i := 100) rfl)))))), rfl⟩
theorem cw_98 : Cond.code ⟨"IllLight$Sea", "reached", "(II)I"⟩ prog_8_method_8_code 8 (some .int) ∈ pm_tb := List.mem_filter.mpr ⟨(List.mem_append_right (k2_sels lw_privs) (List.mem_append_right _ (List.mem_append_right _ (List.mem_append_right _ (List.mem_append_left _ (List.mem_of_getElem? (l := tables_1_4) (i := 70) rfl)))))), rfl⟩
theorem cw_99 : Cond.code ⟨"IllLight$Sea", "thereAndBack", "(II)I"⟩ prog_8_method_9_code 8 (some .int) ∈ pm_tb := List.mem_filter.mpr ⟨(List.mem_append_right (k2_sels lw_privs) (List.mem_append_right _ (List.mem_append_right _ (List.mem_append_right _ (List.mem_append_right _ (List.mem_append_left _ (List.mem_of_getElem? (l := tables_1_5) (i := 55) rfl))))))), rfl⟩
theorem cw_100 : Cond.code ⟨"IllLight$Sea", "look", "(LIllLight$Coast;I)V"⟩ prog_8_method_10_code 4 none ∈ pm_tb := List.mem_filter.mpr ⟨(List.mem_append_right (k2_sels lw_privs) (List.mem_append_right _ (List.mem_append_right _ (List.mem_append_right _ (List.mem_append_right _ (List.mem_append_left _ (List.mem_of_getElem? (l := tables_1_5) (i := 63) rfl))))))), rfl⟩
theorem cw_101 : Cond.code ⟨"IllLight$Sea", "bestFor", "(J)I"⟩ prog_8_method_11_code 5 (some .int) ∈ pm_tb := List.mem_filter.mpr ⟨(List.mem_append_right (k2_sels lw_privs) (List.mem_append_right _ (List.mem_append_right _ (List.mem_append_right _ (List.mem_append_right _ (List.mem_append_left _ (List.mem_of_getElem? (l := tables_1_5) (i := 71) rfl))))))), rfl⟩
theorem cw_102 : Cond.code ⟨"IllLight$Sea", "bestPair", "()I"⟩ prog_8_method_12_code 6 (some .int) ∈ pm_tb := List.mem_filter.mpr ⟨(List.mem_append_right (k2_sels lw_privs) (List.mem_append_right _ (List.mem_append_right _ (List.mem_append_right _ (List.mem_append_right _ (List.mem_append_left _ (List.mem_of_getElem? (l := tables_1_5) (i := 75) rfl))))))), rfl⟩
theorem cw_103 : Cond.code ⟨"IllLight$Sea", "seenByBoth", "(I)I"⟩ prog_8_method_13_code 4 (some .int) ∈ pm_tb := List.mem_filter.mpr ⟨(List.mem_append_right (k2_sels lw_privs) (List.mem_append_right _ (List.mem_append_right _ (List.mem_append_right _ (List.mem_append_right _ (List.mem_append_left _ (List.mem_of_getElem? (l := tables_1_5) (i := 79) rfl))))))), rfl⟩
theorem cw_104 : Cond.code ⟨"IllLight$Told", "held", "(I)I"⟩ prog_9_method_2_code 2 (some .int) ∈ pm_tb := List.mem_filter.mpr ⟨(List.mem_append_right (k2_sels lw_privs) (List.mem_append_right _ (List.mem_append_left _ (List.mem_of_getElem? (l := tables_1_2) (i := 118) rfl)))), rfl⟩
theorem cw_105 : Cond.code ⟨"IllLight$Told", "put", "(I)V"⟩ prog_9_method_3_code 3 none ∈ pm_tb := List.mem_filter.mpr ⟨(List.mem_append_right (k2_sels lw_privs) (List.mem_append_right _ (List.mem_append_left _ (List.mem_of_getElem? (l := tables_1_2) (i := 106) rfl)))), rfl⟩
theorem cw_106 : Cond.code ⟨"IllLight$Told", "take", "(LIllLight$Reader;II)V"⟩ prog_9_method_4_code 4 none ∈ pm_tb := List.mem_filter.mpr ⟨(List.mem_append_right (k2_sels lw_privs) (List.mem_append_right _ (List.mem_append_right _ (List.mem_append_left _ (List.mem_of_getElem? (l := tables_1_3) (i := 71) rfl))))), rfl⟩
theorem cw_107 : Cond.code ⟨"IllLight$Told", "copyFrom", "(LIllLight$Told;)V"⟩ prog_9_method_5_code 3 none ∈ pm_tb := List.mem_filter.mpr ⟨(List.mem_append_right (k2_sels lw_privs) (List.mem_append_right _ (List.mem_append_right _ (List.mem_append_right _ (List.mem_append_right _ (List.mem_append_left _ (List.mem_of_getElem? (l := tables_1_5) (i := 111) rfl))))))), rfl⟩
theorem cw_108 : Cond.code ⟨"IllLight", "feed", "(IIIII)I"⟩ prog_1_method_2_code 6 (some .int) ∈ pm_tb := List.mem_filter.mpr ⟨(List.mem_append_right (k2_sels lw_privs) (List.mem_append_right _ (List.mem_append_left _ (List.mem_of_getElem? (l := tables_1_2) (i := 102) rfl)))), rfl⟩
theorem cw_109 : Cond.code ⟨"IllLight", "end", "(I)I"⟩ prog_1_method_3_code 2 (some .int) ∈ pm_tb := List.mem_filter.mpr ⟨(List.mem_append_right (k2_sels lw_privs) (List.mem_append_right _ (List.mem_append_left _ (List.mem_of_getElem? (l := tables_1_2) (i := 110) rfl)))), rfl⟩
theorem cw_110 : Cond.code ⟨"IllLight", "text", "(II)I"⟩ prog_1_method_4_code 7 (some .int) ∈ pm_tb := List.mem_filter.mpr ⟨(List.mem_append_right (k2_sels lw_privs) (List.mem_append_right _ (List.mem_append_left _ (List.mem_of_getElem? (l := tables_1_2) (i := 114) rfl)))), rfl⟩
theorem cw_111 : Cond.code ⟨"IllLight", "fault", "(I)I"⟩ prog_1_method_5_code 2 (some .int) ∈ pm_tb := List.mem_filter.mpr ⟨(List.mem_append_right (k2_sels lw_privs) (List.mem_append_right _ (List.mem_append_right _ (List.mem_append_left _ (List.mem_of_getElem? (l := tables_1_3) (i := 95) rfl))))), rfl⟩
theorem cw_112 : Cond.code ⟨"IllLight", "coast", "(II)I"⟩ prog_1_method_6_code 4 (some .int) ∈ pm_tb := List.mem_filter.mpr ⟨(List.mem_append_right (k2_sels lw_privs) (List.mem_append_right _ (List.mem_append_right _ (List.mem_append_left _ (List.mem_of_getElem? (l := tables_1_3) (i := 99) rfl))))), rfl⟩
theorem cw_113 : Cond.code ⟨"IllLight", "man", "(IIII)I"⟩ prog_1_method_7_code 7 (some .int) ∈ pm_tb := List.mem_filter.mpr ⟨(List.mem_append_right (k2_sels lw_privs) (List.mem_append_right _ (List.mem_append_right _ (List.mem_append_left _ (List.mem_of_getElem? (l := tables_1_3) (i := 131) rfl))))), rfl⟩
theorem cw_114 : Cond.code ⟨"IllLight", "deed", "(III)I"⟩ prog_1_method_8_code 5 (some .int) ∈ pm_tb := List.mem_filter.mpr ⟨(List.mem_append_right (k2_sels lw_privs) (List.mem_append_right _ (List.mem_append_right _ (List.mem_append_left _ (List.mem_of_getElem? (l := tables_1_3) (i := 139) rfl))))), rfl⟩
theorem cw_115 : Cond.code ⟨"IllLight", "light", "(IIII)I"⟩ prog_1_method_9_code 7 (some .int) ∈ pm_tb := List.mem_filter.mpr ⟨(List.mem_append_right (k2_sels lw_privs) (List.mem_append_right _ (List.mem_append_right _ (List.mem_append_left _ (List.mem_of_getElem? (l := tables_1_3) (i := 151) rfl))))), rfl⟩
theorem cw_116 : Cond.code ⟨"IllLight", "stop", "(II)I"⟩ prog_1_method_10_code 5 (some .int) ∈ pm_tb := List.mem_filter.mpr ⟨(List.mem_append_right (k2_sels lw_privs) (List.mem_append_right _ (List.mem_append_right _ (List.mem_append_left _ (List.mem_of_getElem? (l := tables_1_3) (i := 177) rfl))))), rfl⟩
theorem cw_117 : Cond.code ⟨"IllLight", "state", "(IIII)I"⟩ prog_1_method_11_code 7 (some .int) ∈ pm_tb := List.mem_filter.mpr ⟨(List.mem_append_right (k2_sels lw_privs) (List.mem_append_right _ (List.mem_append_right _ (List.mem_append_right _ (List.mem_append_left _ (List.mem_of_getElem? (l := tables_1_4) (i := 14) rfl)))))), rfl⟩
theorem cw_118 : Cond.code ⟨"IllLight", "way", "(III)I"⟩ prog_1_method_12_code 5 (some .int) ∈ pm_tb := List.mem_filter.mpr ⟨(List.mem_append_right (k2_sels lw_privs) (List.mem_append_right _ (List.mem_append_right _ (List.mem_append_right _ (List.mem_append_left _ (List.mem_of_getElem? (l := tables_1_4) (i := 33) rfl)))))), rfl⟩
theorem cw_119 : Cond.code ⟨"IllLight", "free", "(IIII)I"⟩ prog_1_method_13_code 6 (some .int) ∈ pm_tb := List.mem_filter.mpr ⟨(List.mem_append_right (k2_sels lw_privs) (List.mem_append_right _ (List.mem_append_right _ (List.mem_append_right _ (List.mem_append_left _ (List.mem_of_getElem? (l := tables_1_4) (i := 63) rfl)))))), rfl⟩
theorem cw_120 : Cond.code ⟨"IllLight", "helps", "(IIIII)I"⟩ prog_1_method_14_code 7 (some .int) ∈ pm_tb := List.mem_filter.mpr ⟨(List.mem_append_right (k2_sels lw_privs) (List.mem_append_right _ (List.mem_append_right _ (List.mem_append_right _ (List.mem_append_left _ (List.mem_of_getElem? (l := tables_1_4) (i := 81) rfl)))))), rfl⟩
theorem cw_121 : Cond.code ⟨"IllLight", "rest", "(III)I"⟩ prog_1_method_15_code 5 (some .int) ∈ pm_tb := List.mem_filter.mpr ⟨(List.mem_append_right (k2_sels lw_privs) (List.mem_append_right _ (List.mem_append_right _ (List.mem_append_right _ (List.mem_append_left _ (List.mem_of_getElem? (l := tables_1_4) (i := 121) rfl)))))), rfl⟩
theorem cw_122 : Cond.code ⟨"IllLight", "premium", "(IIIZ)J"⟩ prog_1_method_16_code 10 (some .long) ∈ pm_tb := List.mem_filter.mpr ⟨(List.mem_append_right (k2_sels lw_privs) (List.mem_append_right _ (List.mem_append_right _ (List.mem_append_right _ (List.mem_append_left _ (List.mem_of_getElem? (l := tables_1_4) (i := 160) rfl)))))), rfl⟩
theorem cw_123 : Cond.code ⟨"IllLight", "log", "(II)I"⟩ prog_1_method_17_code 4 (some .int) ∈ pm_tb := List.mem_filter.mpr ⟨(List.mem_append_right (k2_sels lw_privs) (List.mem_append_right _ (List.mem_append_right _ (List.mem_append_right _ (List.mem_append_left _ (List.mem_of_getElem? (l := tables_1_4) (i := 172) rfl)))))), rfl⟩
theorem cw_124 : Cond.code ⟨"IllLight", "fits", "(II)I"⟩ prog_1_method_18_code 6 (some .int) ∈ pm_tb := List.mem_filter.mpr ⟨(List.mem_append_right (k2_sels lw_privs) (List.mem_append_right _ (List.mem_append_right _ (List.mem_append_right _ (List.mem_append_left _ (List.mem_of_getElem? (l := tables_1_4) (i := 192) rfl)))))), rfl⟩
theorem cw_125 : Cond.code ⟨"IllLight", "belief", "(IIZ)J"⟩ prog_1_method_19_code 5 (some .long) ∈ pm_tb := List.mem_filter.mpr ⟨(List.mem_append_right (k2_sels lw_privs) (List.mem_append_right _ (List.mem_append_right _ (List.mem_append_right _ (List.mem_append_left _ (List.mem_of_getElem? (l := tables_1_4) (i := 236) rfl)))))), rfl⟩
theorem cw_126 : Cond.code ⟨"IllLight", "drawn", "(IIII)I"⟩ prog_1_method_20_code 6 (some .int) ∈ pm_tb := List.mem_filter.mpr ⟨(List.mem_append_right (k2_sels lw_privs) (List.mem_append_right _ (List.mem_append_right _ (List.mem_append_right _ (List.mem_append_right _ (List.mem_append_left _ (List.mem_of_getElem? (l := tables_1_5) (i := 9) rfl))))))), rfl⟩
theorem cw_127 : Cond.code ⟨"IllLight", "hours", "(III)I"⟩ prog_1_method_21_code 5 (some .int) ∈ pm_tb := List.mem_filter.mpr ⟨(List.mem_append_right (k2_sels lw_privs) (List.mem_append_right _ (List.mem_append_right _ (List.mem_append_right _ (List.mem_append_right _ (List.mem_append_left _ (List.mem_of_getElem? (l := tables_1_5) (i := 22) rfl))))))), rfl⟩
theorem cw_128 : Cond.code ⟨"IllLight", "shade", "(II)I"⟩ prog_1_method_22_code 4 (some .int) ∈ pm_tb := List.mem_filter.mpr ⟨(List.mem_append_right (k2_sels lw_privs) (List.mem_append_right _ (List.mem_append_right _ (List.mem_append_right _ (List.mem_append_right _ (List.mem_append_left _ (List.mem_of_getElem? (l := tables_1_5) (i := 38) rfl))))))), rfl⟩
theorem cw_129 : Cond.code ⟨"IllLight", "leaves", "(IIII)I"⟩ prog_1_method_23_code 6 (some .int) ∈ pm_tb := List.mem_filter.mpr ⟨(List.mem_append_right (k2_sels lw_privs) (List.mem_append_right _ (List.mem_append_right _ (List.mem_append_right _ (List.mem_append_right _ (List.mem_append_left _ (List.mem_of_getElem? (l := tables_1_5) (i := 47) rfl))))))), rfl⟩
theorem cw_130 : Cond.code ⟨"IllLight", "back", "(III)I"⟩ prog_1_method_24_code 5 (some .int) ∈ pm_tb := List.mem_filter.mpr ⟨(List.mem_append_right (k2_sels lw_privs) (List.mem_append_right _ (List.mem_append_right _ (List.mem_append_right _ (List.mem_append_right _ (List.mem_append_left _ (List.mem_of_getElem? (l := tables_1_5) (i := 51) rfl))))))), rfl⟩
theorem cw_131 : Cond.code ⟨"IllLight", "watch", "(III)I"⟩ prog_1_method_25_code 6 (some .int) ∈ pm_tb := List.mem_filter.mpr ⟨(List.mem_append_right (k2_sels lw_privs) (List.mem_append_right _ (List.mem_append_right _ (List.mem_append_right _ (List.mem_append_right _ (List.mem_append_left _ (List.mem_of_getElem? (l := tables_1_5) (i := 59) rfl))))))), rfl⟩
theorem cw_132 : Cond.code ⟨"IllLight", "mutiny", "(IIIZ)I"⟩ prog_1_method_26_code 6 (some .int) ∈ pm_tb := List.mem_filter.mpr ⟨(List.mem_append_right (k2_sels lw_privs) (List.mem_append_right _ (List.mem_append_right _ (List.mem_append_right _ (List.mem_append_right _ (List.mem_append_left _ (List.mem_of_getElem? (l := tables_1_5) (i := 83) rfl))))))), rfl⟩
theorem cw_133 : Cond.code ⟨"IllLight", "next", "(IIZ)J"⟩ prog_1_method_27_code 5 (some .long) ∈ pm_tb := List.mem_filter.mpr ⟨(List.mem_append_right (k2_sels lw_privs) (List.mem_append_right _ (List.mem_append_right _ (List.mem_append_right _ (List.mem_append_right _ (List.mem_append_left _ (List.mem_of_getElem? (l := tables_1_5) (i := 95) rfl))))))), rfl⟩
theorem cw_134 : Cond.code ⟨"IllLight", "both", "(IIIZ)J"⟩ prog_1_method_28_code 6 (some .long) ∈ pm_tb := List.mem_filter.mpr ⟨(List.mem_append_right (k2_sels lw_privs) (List.mem_append_right _ (List.mem_append_right _ (List.mem_append_right _ (List.mem_append_right _ (List.mem_append_left _ (List.mem_of_getElem? (l := tables_1_5) (i := 99) rfl))))))), rfl⟩
theorem cw_135 : Cond.code ⟨"IllLight", "count", "(I)I"⟩ prog_1_method_29_code 2 (some .int) ∈ pm_tb := List.mem_filter.mpr ⟨(List.mem_append_right (k2_sels lw_privs) (List.mem_append_right _ (List.mem_append_right _ (List.mem_append_right _ (List.mem_append_right _ (List.mem_append_left _ (List.mem_of_getElem? (l := tables_1_5) (i := 103) rfl))))))), rfl⟩
theorem cw_136 : Cond.code ⟨"IllLight", "image", "(I)Z"⟩ prog_1_method_30_code 2 (some .boolean) ∈ pm_tb := List.mem_filter.mpr ⟨(List.mem_append_right (k2_sels lw_privs) (List.mem_append_right _ (List.mem_append_right _ (List.mem_append_right _ (List.mem_append_right _ (List.mem_append_left _ (List.mem_of_getElem? (l := tables_1_5) (i := 107) rfl))))))), rfl⟩
theorem cw_137 : Cond.code ⟨"IllLight", "again", "(I)Z"⟩ prog_1_method_31_code 2 (some .boolean) ∈ pm_tb := List.mem_filter.mpr ⟨(List.mem_append_right (k2_sels lw_privs) (List.mem_append_right _ (List.mem_append_right _ (List.mem_append_right _ (List.mem_append_right _ (List.mem_append_left _ (List.mem_of_getElem? (l := tables_1_5) (i := 116) rfl))))))), rfl⟩
theorem cw_138 : Cond.code ⟨"IllLight", "coastAt", "(I)LIllLight$Coast;"⟩ prog_1_method_32_code 2 (some (.object "IllLight$Coast")) ∈ pm_tb := List.mem_filter.mpr ⟨(List.mem_append_right (k2_sels lw_privs) (List.mem_append_right _ (List.mem_append_right _ (List.mem_append_left _ (List.mem_of_getElem? (l := tables_1_3) (i := 103) rfl))))), rfl⟩
theorem cw_139 : Cond.code ⟨"IllLight", "nightAt", "(I)LIllLight$Night;"⟩ prog_1_method_33_code 2 (some (.object "IllLight$Night")) ∈ pm_tb := List.mem_filter.mpr ⟨(List.mem_append_right (k2_sels lw_privs) (List.mem_append_right _ (List.mem_append_right _ (List.mem_append_left _ (List.mem_of_getElem? (l := tables_1_3) (i := 143) rfl))))), rfl⟩
theorem cw_140 : Cond.code ⟨"IllLight", "logAt", "(I)LIllLight$Log;"⟩ prog_1_method_34_code 2 (some (.object "IllLight$Log")) ∈ pm_tb := List.mem_filter.mpr ⟨(List.mem_append_right (k2_sels lw_privs) (List.mem_append_right _ (List.mem_append_right _ (List.mem_append_right _ (List.mem_append_left _ (List.mem_of_getElem? (l := tables_1_4) (i := 176) rfl)))))), rfl⟩
theorem cw_141 : Cond.code ⟨"IllLight", "isHour", "(I)Z"⟩ prog_1_method_35_code 1 (some .boolean) ∈ pm_tb := List.mem_filter.mpr ⟨(List.mem_append_right (k2_sels lw_privs) (List.mem_append_right _ (List.mem_append_right _ (List.mem_append_left _ (List.mem_of_getElem? (l := tables_1_3) (i := 155) rfl))))), rfl⟩
theorem cw_142 : Cond.code ⟨"IllLight", "isLength", "(I)Z"⟩ prog_1_method_36_code 1 (some .boolean) ∈ pm_tb := List.mem_filter.mpr ⟨(List.mem_append_right (k2_sels lw_privs) (List.mem_append_right _ (List.mem_append_right _ (List.mem_append_right _ (List.mem_append_left _ (List.mem_of_getElem? (l := tables_1_4) (i := 66) rfl)))))), rfl⟩
theorem cw_143 : Cond.code ⟨"IllLight", "isRange", "(I)Z"⟩ prog_1_method_37_code 1 (some .boolean) ∈ pm_tb := List.mem_filter.mpr ⟨(List.mem_append_right (k2_sels lw_privs) (List.mem_append_right _ (List.mem_append_right _ (List.mem_append_right _ (List.mem_append_left _ (List.mem_of_getElem? (l := tables_1_4) (i := 124) rfl)))))), rfl⟩
theorem cw_144 : Cond.code ⟨"IllLight", "isVoyage", "(LIllLight$Coast;II)Z"⟩ prog_1_method_38_code 3 (some .boolean) ∈ pm_tb := List.mem_filter.mpr ⟨(List.mem_append_right (k2_sels lw_privs) (List.mem_append_right _ (List.mem_append_right _ (List.mem_append_right _ (List.mem_append_left _ (List.mem_of_getElem? (l := tables_1_4) (i := 36) rfl)))))), rfl⟩
theorem cw_145 : Cond.code ⟨"IllLight", "fewestMen", "(LIllLight$Coast;IIZ)I"⟩ prog_1_method_39_code 9 (some .int) ∈ pm_tb := List.mem_filter.mpr ⟨(List.mem_append_right (k2_sels lw_privs) (List.mem_append_right _ (List.mem_append_right _ (List.mem_append_right _ (List.mem_append_left _ (List.mem_of_getElem? (l := tables_1_4) (i := 85) rfl)))))), rfl⟩
theorem cw_146 : Cond.code ⟨"IllLight", "leastIll", "(LIllLight$Coast;II)I"⟩ prog_1_method_40_code 5 (some .int) ∈ pm_tb := List.mem_filter.mpr ⟨(List.mem_append_right (k2_sels lw_privs) (List.mem_append_right _ (List.mem_append_right _ (List.mem_append_right _ (List.mem_append_left _ (List.mem_of_getElem? (l := tables_1_4) (i := 105) rfl)))))), rfl⟩
theorem cw_147 : Cond.code ⟨"IllLight", "leastThrown", "(LIllLight$Coast;II)I"⟩ prog_1_method_41_code 5 (some .int) ∈ pm_tb := List.mem_filter.mpr ⟨(List.mem_append_right (k2_sels lw_privs) (List.mem_append_right _ (List.mem_append_right _ (List.mem_append_right _ (List.mem_append_left _ (List.mem_of_getElem? (l := tables_1_4) (i := 110) rfl)))))), rfl⟩
theorem cw_148 : Cond.code ⟨"IllLight", "hoursToLeave", "(LIllLight$Coast;II)I"⟩ prog_1_method_42_code 7 (some .int) ∈ pm_tb := List.mem_filter.mpr ⟨(List.mem_append_right (k2_sels lw_privs) (List.mem_append_right _ (List.mem_append_right _ (List.mem_append_right _ (List.mem_append_left _ (List.mem_of_getElem? (l := tables_1_4) (i := 114) rfl)))))), rfl⟩
theorem cw_149 : Cond.code ⟨"IllLight", "firstOf", "(I)I"⟩ prog_1_method_43_code 2 (some .int) ∈ pm_tb := List.mem_filter.mpr ⟨(List.mem_append_right (k2_sels lw_privs) (List.mem_append_right _ (List.mem_append_right _ (List.mem_append_right _ (List.mem_append_left _ (List.mem_of_getElem? (l := tables_1_4) (i := 117) rfl)))))), rfl⟩
theorem cw_150 : Cond.code ⟨"IllLight", "longestRow", "(I)I"⟩ prog_1_method_44_code 4 (some .int) ∈ pm_tb := List.mem_filter.mpr ⟨(List.mem_append_right (k2_sels lw_privs) (List.mem_append_right _ (List.mem_append_right _ (List.mem_append_right _ (List.mem_append_right _ (List.mem_append_left _ (List.mem_of_getElem? (l := tables_1_5) (i := 29) rfl))))))), rfl⟩
theorem cw_151 : Cond.code ⟨"IllLight", "leastTerms", "(JJZ)J"⟩ prog_1_method_45_code 7 (some .long) ∈ pm_tb := List.mem_filter.mpr ⟨(List.mem_append_right (k2_sels lw_privs) (List.mem_append_right _ (List.mem_append_right _ (List.mem_append_right _ (List.mem_append_left _ (List.mem_of_getElem? (l := tables_1_4) (i := 165) rfl)))))), rfl⟩
theorem cw_152 : Cond.code ⟨"IllLight", "commonDivisor", "(JJ)J"⟩ prog_1_method_46_code 7 (some .long) ∈ pm_tb := List.mem_filter.mpr ⟨(List.mem_append_right (k2_sels lw_privs) (List.mem_append_right _ (List.mem_append_right _ (List.mem_append_right _ (List.mem_append_left _ (List.mem_of_getElem? (l := tables_1_4) (i := 168) rfl)))))), rfl⟩
theorem cw_153 : Cond.code ⟨"IllLightModel", "isIn", "(III)Z"⟩ prog_11_method_2_code 3 (some .boolean) ∈ pm_tb := List.mem_filter.mpr ⟨(List.mem_append_right (k2_sels lw_privs) (List.mem_append_right _ (List.mem_append_right _ (List.mem_append_right _ (List.mem_append_right _ (List.mem_append_right _ (List.mem_append_left _ (List.mem_of_getElem? (l := tables_1_6) (i := 9) rfl)))))))), rfl⟩
theorem cw_154 : Cond.code ⟨"IllLightModel", "feed", "(IIIII)I"⟩ prog_11_method_3_code 8 (some .int) ∈ pm_tb := List.mem_filter.mpr ⟨(List.mem_append_right (k2_sels lw_privs) (List.mem_append_right _ (List.mem_append_right _ (List.mem_append_right _ (List.mem_append_right _ (List.mem_append_left _ (List.mem_of_getElem? (l := tables_1_5) (i := 238) rfl))))))), rfl⟩
theorem cw_155 : Cond.code ⟨"IllLightModel", "end", "(I)I"⟩ prog_11_method_4_code 2 (some .int) ∈ pm_tb := List.mem_filter.mpr ⟨(List.mem_append_right (k2_sels lw_privs) (List.mem_append_right _ (List.mem_append_right _ (List.mem_append_right _ (List.mem_append_right _ (List.mem_append_right _ (List.mem_append_left _ (List.mem_of_getElem? (l := tables_1_6) (i := 2) rfl)))))))), rfl⟩
theorem cw_156 : Cond.code ⟨"IllLightModel", "byteAt", "(I)I"⟩ prog_11_method_5_code 2 (some .int) ∈ pm_tb := List.mem_filter.mpr ⟨(List.mem_append_right (k2_sels lw_privs) (List.mem_append_right _ (List.mem_append_right _ (List.mem_append_right _ (List.mem_append_right _ (List.mem_append_right _ (List.mem_append_left _ (List.mem_of_getElem? (l := tables_1_6) (i := 21) rfl)))))))), rfl⟩
theorem cw_157 : Cond.code ⟨"IllLightModel", "isLetter", "(I)Z"⟩ prog_11_method_6_code 1 (some .boolean) ∈ pm_tb := List.mem_filter.mpr ⟨(List.mem_append_right (k2_sels lw_privs) (List.mem_append_right _ (List.mem_append_right _ (List.mem_append_right _ (List.mem_append_right _ (List.mem_append_right _ (List.mem_append_left _ (List.mem_of_getElem? (l := tables_1_6) (i := 24) rfl)))))))), rfl⟩
theorem cw_158 : Cond.code ⟨"IllLightModel", "isDigit", "(I)Z"⟩ prog_11_method_7_code 1 (some .boolean) ∈ pm_tb := List.mem_filter.mpr ⟨(List.mem_append_right (k2_sels lw_privs) (List.mem_append_right _ (List.mem_append_right _ (List.mem_append_right _ (List.mem_append_right _ (List.mem_append_right _ (List.mem_append_left _ (List.mem_of_getElem? (l := tables_1_6) (i := 39) rfl)))))))), rfl⟩
theorem cw_159 : Cond.code ⟨"IllLightModel", "four", "(IIII)J"⟩ prog_11_method_8_code 4 (some .long) ∈ pm_tb := List.mem_filter.mpr ⟨(List.mem_append_right (k2_sels lw_privs) (List.mem_append_right _ (List.mem_append_right _ (List.mem_append_right _ (List.mem_append_right _ (List.mem_append_right _ (List.mem_append_left _ (List.mem_of_getElem? (l := tables_1_6) (i := 32) rfl)))))))), rfl⟩
theorem cw_160 : Cond.code ⟨"IllLightModel", "eight", "(IIIIIIII)J"⟩ prog_11_method_9_code 8 (some .long) ∈ pm_tb := List.mem_filter.mpr ⟨(List.mem_append_right (k2_sels lw_privs) (List.mem_append_right _ (List.mem_append_right _ (List.mem_append_right _ (List.mem_append_right _ (List.mem_append_right _ (List.mem_append_left _ (List.mem_of_getElem? (l := tables_1_6) (i := 35) rfl)))))))), rfl⟩
theorem cw_161 : Cond.code ⟨"IllLightModel", "wordOf", "(J)I"⟩ prog_11_method_10_code 2 (some .int) ∈ pm_tb := List.mem_filter.mpr ⟨(List.mem_append_right (k2_sels lw_privs) (List.mem_append_right _ (List.mem_append_right _ (List.mem_append_right _ (List.mem_append_right _ (List.mem_append_right _ (List.mem_append_left _ (List.mem_of_getElem? (l := tables_1_6) (i := 29) rfl)))))))), rfl⟩
theorem cw_162 : Cond.code ⟨"IllLightModel", "advance", "()V"⟩ prog_11_method_11_code 4 none ∈ pm_tb := List.mem_filter.mpr ⟨(List.mem_append_right (k2_sels lw_privs) (List.mem_append_right _ (List.mem_append_right _ (List.mem_append_right _ (List.mem_append_right _ (List.mem_append_right _ (List.mem_append_left _ (List.mem_of_getElem? (l := tables_1_6) (i := 17) rfl)))))))), rfl⟩
theorem cw_163 : Cond.code ⟨"IllLightModel", "ends", "()V"⟩ prog_11_method_12_code 1 none ∈ pm_tb := List.mem_filter.mpr ⟨(List.mem_append_right (k2_sels lw_privs) (List.mem_append_right _ (List.mem_append_right _ (List.mem_append_right _ (List.mem_append_right _ (List.mem_append_right _ (List.mem_append_left _ (List.mem_of_getElem? (l := tables_1_6) (i := 51) rfl)))))))), rfl⟩
theorem cw_164 : Cond.code ⟨"IllLightModel", "also", "(II)V"⟩ prog_11_method_13_code 3 none ∈ pm_tb := List.mem_filter.mpr ⟨(List.mem_append_right (k2_sels lw_privs) (List.mem_append_right _ (List.mem_append_right _ (List.mem_append_right _ (List.mem_append_right _ (List.mem_append_right _ (List.mem_append_left _ (List.mem_of_getElem? (l := tables_1_6) (i := 59) rfl)))))))), rfl⟩
theorem cw_165 : Cond.code ⟨"IllLightModel", "numbered", "(II)I"⟩ prog_11_method_14_code 4 (some .int) ∈ pm_tb := List.mem_filter.mpr ⟨(List.mem_append_right (k2_sels lw_privs) (List.mem_append_right _ (List.mem_append_right _ (List.mem_append_right _ (List.mem_append_right _ (List.mem_append_right _ (List.mem_append_left _ (List.mem_of_getElem? (l := tables_1_6) (i := 55) rfl)))))))), rfl⟩
theorem cw_166 : Cond.code ⟨"IllLightModel", "takes", "(II)I"⟩ prog_11_method_15_code 4 (some .int) ∈ pm_tb := List.mem_filter.mpr ⟨(List.mem_append_right (k2_sels lw_privs) (List.mem_append_right _ (List.mem_append_right _ (List.mem_append_right _ (List.mem_append_right _ (List.mem_append_right _ (List.mem_append_left _ (List.mem_of_getElem? (l := tables_1_6) (i := 47) rfl)))))))), rfl⟩
theorem cw_167 : Cond.code ⟨"IllLightModel", "endsLine", "()V"⟩ prog_11_method_16_code 1 none ∈ pm_tb := List.mem_filter.mpr ⟨(List.mem_append_right (k2_sels lw_privs) (List.mem_append_right _ (List.mem_append_right _ (List.mem_append_right _ (List.mem_append_right _ (List.mem_append_right _ (List.mem_append_left _ (List.mem_of_getElem? (l := tables_1_6) (i := 83) rfl)))))))), rfl⟩
theorem cw_168 : Cond.code ⟨"IllLightModel", "cellTold", "()I"⟩ prog_11_method_17_code 3 (some .int) ∈ pm_tb := List.mem_filter.mpr ⟨(List.mem_append_right (k2_sels lw_privs) (List.mem_append_right _ (List.mem_append_right _ (List.mem_append_right _ (List.mem_append_right _ (List.mem_append_right _ (List.mem_append_left _ (List.mem_of_getElem? (l := tables_1_6) (i := 63) rfl)))))))), rfl⟩
theorem cw_169 : Cond.code ⟨"IllLightModel", "guardLine", "(I)V"⟩ prog_11_method_18_code 5 none ∈ pm_tb := List.mem_filter.mpr ⟨(List.mem_append_right (k2_sels lw_privs) (List.mem_append_right _ (List.mem_append_right _ (List.mem_append_right _ (List.mem_append_right _ (List.mem_append_right _ (List.mem_append_left _ (List.mem_of_getElem? (l := tables_1_6) (i := 67) rfl)))))))), rfl⟩
theorem cw_170 : Cond.code ⟨"IllLightModel", "shipLine", "(I)V"⟩ prog_11_method_19_code 7 none ∈ pm_tb := List.mem_filter.mpr ⟨(List.mem_append_right (k2_sels lw_privs) (List.mem_append_right _ (List.mem_append_right _ (List.mem_append_right _ (List.mem_append_right _ (List.mem_append_right _ (List.mem_append_left _ (List.mem_of_getElem? (l := tables_1_6) (i := 71) rfl)))))))), rfl⟩
theorem cw_171 : Cond.code ⟨"IllLightModel", "shipTold", "()I"⟩ prog_11_method_20_code 2 (some .int) ∈ pm_tb := List.mem_filter.mpr ⟨(List.mem_append_right (k2_sels lw_privs) (List.mem_append_right _ (List.mem_append_right _ (List.mem_append_right _ (List.mem_append_right _ (List.mem_append_right _ (List.mem_append_left _ (List.mem_of_getElem? (l := tables_1_6) (i := 79) rfl)))))))), rfl⟩
theorem cw_172 : Cond.code ⟨"IllLightModel", "manLine", "(II)V"⟩ prog_11_method_21_code 8 none ∈ pm_tb := List.mem_filter.mpr ⟨(List.mem_append_right (k2_sels lw_privs) (List.mem_append_right _ (List.mem_append_right _ (List.mem_append_right _ (List.mem_append_right _ (List.mem_append_right _ (List.mem_append_left _ (List.mem_of_getElem? (l := tables_1_6) (i := 75) rfl)))))))), rfl⟩
theorem cw_173 : Cond.code ⟨"IllLightModel", "coastLine", "()V"⟩ prog_11_method_22_code 3 none ∈ pm_tb := List.mem_filter.mpr ⟨(List.mem_append_right (k2_sels lw_privs) (List.mem_append_right _ (List.mem_append_right _ (List.mem_append_right _ (List.mem_append_right _ (List.mem_append_right _ (List.mem_append_left _ (List.mem_of_getElem? (l := tables_1_6) (i := 43) rfl)))))))), rfl⟩
theorem cw_174 : Cond.code ⟨"IllLightModel", "nightLine", "()V"⟩ prog_11_method_23_code 7 none ∈ pm_tb := List.mem_filter.mpr ⟨(List.mem_append_right (k2_sels lw_privs) (List.mem_append_right _ (List.mem_append_right _ (List.mem_append_right _ (List.mem_append_right _ (List.mem_append_right _ (List.mem_append_left _ (List.mem_of_getElem? (l := tables_1_6) (i := 87) rfl)))))))), rfl⟩
theorem cw_175 : Cond.code ⟨"IllLightModel", "logMan", "(I)V"⟩ prog_11_method_24_code 3 none ∈ pm_tb := List.mem_filter.mpr ⟨(List.mem_append_right (k2_sels lw_privs) (List.mem_append_right _ (List.mem_append_right _ (List.mem_append_right _ (List.mem_append_right _ (List.mem_append_right _ (List.mem_append_left _ (List.mem_of_getElem? (l := tables_1_6) (i := 95) rfl)))))))), rfl⟩
theorem cw_176 : Cond.code ⟨"IllLightModel", "logFact", "(IZ)V"⟩ prog_11_method_25_code 4 none ∈ pm_tb := List.mem_filter.mpr ⟨(List.mem_append_right (k2_sels lw_privs) (List.mem_append_right _ (List.mem_append_right _ (List.mem_append_right _ (List.mem_append_right _ (List.mem_append_right _ (List.mem_append_left _ (List.mem_of_getElem? (l := tables_1_6) (i := 99) rfl)))))))), rfl⟩
theorem cw_177 : Cond.code ⟨"IllLightModel", "logLine", "()V"⟩ prog_11_method_26_code 3 none ∈ pm_tb := List.mem_filter.mpr ⟨(List.mem_append_right (k2_sels lw_privs) (List.mem_append_right _ (List.mem_append_right _ (List.mem_append_right _ (List.mem_append_right _ (List.mem_append_right _ (List.mem_append_left _ (List.mem_of_getElem? (l := tables_1_6) (i := 91) rfl)))))))), rfl⟩
theorem cw_178 : Cond.code ⟨"IllLightModel", "placeOf", "(II)I"⟩ prog_11_method_27_code 2 (some .int) ∈ pm_tb := List.mem_filter.mpr ⟨(List.mem_append_right (k2_sels lw_privs) (List.mem_append_right _ (List.mem_append_right _ (List.mem_append_right _ (List.mem_append_right _ (List.mem_append_right _ (List.mem_append_left _ (List.mem_of_getElem? (l := tables_1_6) (i := 105) rfl)))))))), rfl⟩
theorem cw_179 : Cond.code ⟨"IllLightModel", "sizeOf", "(I)I"⟩ prog_11_method_28_code 1 (some .int) ∈ pm_tb := List.mem_filter.mpr ⟨(List.mem_append_right (k2_sels lw_privs) (List.mem_append_right _ (List.mem_append_right _ (List.mem_append_right _ (List.mem_append_right _ (List.mem_append_right _ (List.mem_append_left _ (List.mem_of_getElem? (l := tables_1_6) (i := 102) rfl)))))))), rfl⟩
theorem cw_180 : Cond.code ⟨"IllLightModel", "isOf", "(II)Z"⟩ prog_11_method_29_code 3 (some .boolean) ∈ pm_tb := List.mem_filter.mpr ⟨(List.mem_append_right (k2_sels lw_privs) (List.mem_append_right _ (List.mem_append_right _ (List.mem_append_right _ (List.mem_append_right _ (List.mem_append_right _ (List.mem_append_left _ (List.mem_of_getElem? (l := tables_1_6) (i := 13) rfl)))))))), rfl⟩
theorem cw_181 : Cond.code ⟨"IllLightModel", "text", "(II)I"⟩ prog_11_method_30_code 5 (some .int) ∈ pm_tb := List.mem_filter.mpr ⟨(List.mem_append_right (k2_sels lw_privs) (List.mem_append_right _ (List.mem_append_right _ (List.mem_append_right _ (List.mem_append_right _ (List.mem_append_right _ (List.mem_append_left _ (List.mem_of_getElem? (l := tables_1_6) (i := 6) rfl)))))))), rfl⟩
theorem cw_182 : Cond.code ⟨"IllLightModel", "settled", "(II)I"⟩ prog_11_method_31_code 3 (some .int) ∈ pm_tb := List.mem_filter.mpr ⟨(List.mem_append_right (k2_sels lw_privs) (List.mem_append_right _ (List.mem_append_right _ (List.mem_append_right _ (List.mem_append_right _ (List.mem_append_right _ (List.mem_append_left _ (List.mem_of_getElem? (l := tables_1_6) (i := 113) rfl)))))))), rfl⟩
theorem cw_183 : Cond.code ⟨"IllLightModel", "settles", "(I)V"⟩ prog_11_method_32_code 4 none ∈ pm_tb := List.mem_filter.mpr ⟨(List.mem_append_right (k2_sels lw_privs) (List.mem_append_right _ (List.mem_append_right _ (List.mem_append_right _ (List.mem_append_right _ (List.mem_append_right _ (List.mem_append_left _ (List.mem_of_getElem? (l := tables_1_6) (i := 109) rfl)))))))), rfl⟩
theorem cw_184 : Cond.code ⟨"IllLightModel", "fault", "(I)I"⟩ prog_11_method_33_code 2 (some .int) ∈ pm_tb := List.mem_filter.mpr ⟨(List.mem_append_right (k2_sels lw_privs) (List.mem_append_right _ (List.mem_append_right _ (List.mem_append_right _ (List.mem_append_right _ (List.mem_append_right _ (List.mem_append_left _ (List.mem_of_getElem? (l := tables_1_6) (i := 117) rfl)))))))), rfl⟩
theorem cw_185 : Cond.code ⟨"IllLightModel", "isCoast", "(I)Z"⟩ prog_11_method_34_code 2 (some .boolean) ∈ pm_tb := List.mem_filter.mpr ⟨(List.mem_append_right (k2_sels lw_privs) (List.mem_append_right _ (List.mem_append_right _ (List.mem_append_right _ (List.mem_append_right _ (List.mem_append_right _ (List.mem_append_left _ (List.mem_of_getElem? (l := tables_1_6) (i := 125) rfl)))))))), rfl⟩
theorem cw_186 : Cond.code ⟨"IllLightModel", "isCell", "(I)Z"⟩ prog_11_method_35_code 2 (some .boolean) ∈ pm_tb := List.mem_filter.mpr ⟨(List.mem_append_right (k2_sels lw_privs) (List.mem_append_right _ (List.mem_append_right _ (List.mem_append_right _ (List.mem_append_right _ (List.mem_append_right _ (List.mem_append_right _ (List.mem_of_getElem? (l := tables_1_7) (i := 11) rfl)))))))), rfl⟩
theorem cw_187 : Cond.code ⟨"IllLightModel", "isShip", "(I)Z"⟩ prog_11_method_36_code 2 (some .boolean) ∈ pm_tb := List.mem_filter.mpr ⟨(List.mem_append_right (k2_sels lw_privs) (List.mem_append_right _ (List.mem_append_right _ (List.mem_append_right _ (List.mem_append_right _ (List.mem_append_right _ (List.mem_append_left _ (List.mem_of_getElem? (l := tables_1_6) (i := 129) rfl)))))))), rfl⟩
theorem cw_188 : Cond.code ⟨"IllLightModel", "of", "(II)I"⟩ prog_11_method_37_code 3 (some .int) ∈ pm_tb := List.mem_filter.mpr ⟨(List.mem_append_right (k2_sels lw_privs) (List.mem_append_right _ (List.mem_append_right _ (List.mem_append_right _ (List.mem_append_right _ (List.mem_append_right _ (List.mem_append_left _ (List.mem_of_getElem? (l := tables_1_6) (i := 133) rfl)))))))), rfl⟩
theorem cw_189 : Cond.code ⟨"IllLightModel", "coast", "(II)I"⟩ prog_11_method_38_code 4 (some .int) ∈ pm_tb := List.mem_filter.mpr ⟨(List.mem_append_right (k2_sels lw_privs) (List.mem_append_right _ (List.mem_append_right _ (List.mem_append_right _ (List.mem_append_right _ (List.mem_append_right _ (List.mem_append_left _ (List.mem_of_getElem? (l := tables_1_6) (i := 121) rfl)))))))), rfl⟩
theorem cw_190 : Cond.code ⟨"IllLightModel", "man", "(IIII)I"⟩ prog_11_method_39_code 5 (some .int) ∈ pm_tb := List.mem_filter.mpr ⟨(List.mem_append_right (k2_sels lw_privs) (List.mem_append_right _ (List.mem_append_right _ (List.mem_append_right _ (List.mem_append_right _ (List.mem_append_right _ (List.mem_append_left _ (List.mem_of_getElem? (l := tables_1_6) (i := 137) rfl)))))))), rfl⟩
theorem cw_191 : Cond.code ⟨"IllLightModel", "asTold", "()V"⟩ prog_11_method_40_code 2 none ∈ pm_tb := List.mem_filter.mpr ⟨(List.mem_append_right (k2_sels lw_privs) (List.mem_append_right _ (List.mem_append_right _ (List.mem_append_right _ (List.mem_append_right _ (List.mem_append_right _ (List.mem_append_left _ (List.mem_of_getElem? (l := tables_1_6) (i := 145) rfl)))))))), rfl⟩
theorem cw_192 : Cond.code ⟨"IllLightModel", "meansAlone", "(II)I"⟩ prog_11_method_41_code 4 (some .int) ∈ pm_tb := List.mem_filter.mpr ⟨(List.mem_append_right (k2_sels lw_privs) (List.mem_append_right _ (List.mem_append_right _ (List.mem_append_right _ (List.mem_append_right _ (List.mem_append_right _ (List.mem_append_left _ (List.mem_of_getElem? (l := tables_1_6) (i := 153) rfl)))))))), rfl⟩
theorem cw_193 : Cond.code ⟨"IllLightModel", "means", "(III)I"⟩ prog_11_method_42_code 5 (some .int) ∈ pm_tb := List.mem_filter.mpr ⟨(List.mem_append_right (k2_sels lw_privs) (List.mem_append_right _ (List.mem_append_right _ (List.mem_append_right _ (List.mem_append_right _ (List.mem_append_right _ (List.mem_append_left _ (List.mem_of_getElem? (l := tables_1_6) (i := 149) rfl)))))))), rfl⟩
theorem cw_194 : Cond.code ⟨"IllLightModel", "harmOf", "(II)I"⟩ prog_11_method_43_code 5 (some .int) ∈ pm_tb := List.mem_filter.mpr ⟨(List.mem_append_right (k2_sels lw_privs) (List.mem_append_right _ (List.mem_append_right _ (List.mem_append_right _ (List.mem_append_right _ (List.mem_append_right _ (List.mem_append_left _ (List.mem_of_getElem? (l := tables_1_6) (i := 157) rfl)))))))), rfl⟩
theorem cw_195 : Cond.code ⟨"IllLightModel", "lightOf", "(II)I"⟩ prog_11_method_44_code 5 (some .int) ∈ pm_tb := List.mem_filter.mpr ⟨(List.mem_append_right (k2_sels lw_privs) (List.mem_append_right _ (List.mem_append_right _ (List.mem_append_right _ (List.mem_append_right _ (List.mem_append_right _ (List.mem_append_left _ (List.mem_of_getElem? (l := tables_1_6) (i := 161) rfl)))))))), rfl⟩
theorem cw_196 : Cond.code ⟨"IllLightModel", "isLit", "(II)Z"⟩ prog_11_method_45_code 4 (some .boolean) ∈ pm_tb := List.mem_filter.mpr ⟨(List.mem_append_right (k2_sels lw_privs) (List.mem_append_right _ (List.mem_append_right _ (List.mem_append_right _ (List.mem_append_right _ (List.mem_append_right _ (List.mem_append_left _ (List.mem_of_getElem? (l := tables_1_6) (i := 165) rfl)))))))), rfl⟩
theorem cw_197 : Cond.code ⟨"IllLightModel", "light", "(IIII)I"⟩ prog_11_method_46_code 5 (some .int) ∈ pm_tb := List.mem_filter.mpr ⟨(List.mem_append_right (k2_sels lw_privs) (List.mem_append_right _ (List.mem_append_right _ (List.mem_append_right _ (List.mem_append_right _ (List.mem_append_right _ (List.mem_append_left _ (List.mem_of_getElem? (l := tables_1_6) (i := 141) rfl)))))))), rfl⟩
theorem cw_198 : Cond.code ⟨"IllLightModel", "isNight", "(I)Z"⟩ prog_11_method_47_code 2 (some .boolean) ∈ pm_tb := List.mem_filter.mpr ⟨(List.mem_append_right (k2_sels lw_privs) (List.mem_append_right _ (List.mem_append_right _ (List.mem_append_right _ (List.mem_append_right _ (List.mem_append_right _ (List.mem_append_left _ (List.mem_of_getElem? (l := tables_1_6) (i := 173) rfl)))))))), rfl⟩
theorem cw_199 : Cond.code ⟨"IllLightModel", "deed", "(III)I"⟩ prog_11_method_48_code 4 (some .int) ∈ pm_tb := List.mem_filter.mpr ⟨(List.mem_append_right (k2_sels lw_privs) (List.mem_append_right _ (List.mem_append_right _ (List.mem_append_right _ (List.mem_append_right _ (List.mem_append_right _ (List.mem_append_left _ (List.mem_of_getElem? (l := tables_1_6) (i := 169) rfl)))))))), rfl⟩
theorem cw_200 : Cond.code ⟨"IllLightModel", "begins", "()V"⟩ prog_11_method_49_code 2 none ∈ pm_tb := List.mem_filter.mpr ⟨(List.mem_append_right (k2_sels lw_privs) (List.mem_append_right _ (List.mem_append_right _ (List.mem_append_right _ (List.mem_append_right _ (List.mem_append_right _ (List.mem_append_left _ (List.mem_of_getElem? (l := tables_1_6) (i := 185) rfl)))))))), rfl⟩
theorem cw_201 : Cond.code ⟨"IllLightModel", "isLost", "(I)Z"⟩ prog_11_method_50_code 2 (some .boolean) ∈ pm_tb := List.mem_filter.mpr ⟨(List.mem_append_right (k2_sels lw_privs) (List.mem_append_right _ (List.mem_append_right _ (List.mem_append_right _ (List.mem_append_right _ (List.mem_append_right _ (List.mem_append_left _ (List.mem_of_getElem? (l := tables_1_6) (i := 197) rfl)))))))), rfl⟩
theorem cw_202 : Cond.code ⟨"IllLightModel", "stepTo", "(II)I"⟩ prog_11_method_51_code 5 (some .int) ∈ pm_tb := List.mem_filter.mpr ⟨(List.mem_append_right (k2_sels lw_privs) (List.mem_append_right _ (List.mem_append_right _ (List.mem_append_right _ (List.mem_append_right _ (List.mem_append_right _ (List.mem_append_left _ (List.mem_of_getElem? (l := tables_1_6) (i := 235) rfl)))))))), rfl⟩
theorem cw_203 : Cond.code ⟨"IllLightModel", "far", "(II)I"⟩ prog_11_method_52_code 2 (some .int) ∈ pm_tb := List.mem_filter.mpr ⟨(List.mem_append_right (k2_sels lw_privs) (List.mem_append_right _ (List.mem_append_right _ (List.mem_append_right _ (List.mem_append_right _ (List.mem_append_right _ (List.mem_append_left _ (List.mem_of_getElem? (l := tables_1_6) (i := 219) rfl)))))))), rfl⟩
theorem cw_204 : Cond.code ⟨"IllLightModel", "apart", "(II)I"⟩ prog_11_method_53_code 3 (some .int) ∈ pm_tb := List.mem_filter.mpr ⟨(List.mem_append_right (k2_sels lw_privs) (List.mem_append_right _ (List.mem_append_right _ (List.mem_append_right _ (List.mem_append_right _ (List.mem_append_right _ (List.mem_append_left _ (List.mem_of_getElem? (l := tables_1_6) (i := 216) rfl)))))))), rfl⟩
theorem cw_205 : Cond.code ⟨"IllLightModel", "side", "(I)I"⟩ prog_11_method_54_code 1 (some .int) ∈ pm_tb := List.mem_filter.mpr ⟨(List.mem_append_right (k2_sels lw_privs) (List.mem_append_right _ (List.mem_append_right _ (List.mem_append_right _ (List.mem_append_right _ (List.mem_append_right _ (List.mem_append_left _ (List.mem_of_getElem? (l := tables_1_6) (i := 212) rfl)))))))), rfl⟩
theorem cw_206 : Cond.code ⟨"IllLightModel", "isBetween", "(II)Z"⟩ prog_11_method_55_code 8 (some .boolean) ∈ pm_tb := List.mem_filter.mpr ⟨(List.mem_append_right (k2_sels lw_privs) (List.mem_append_right _ (List.mem_append_right _ (List.mem_append_right _ (List.mem_append_right _ (List.mem_append_right _ (List.mem_append_left _ (List.mem_of_getElem? (l := tables_1_6) (i := 209) rfl)))))))), rfl⟩
theorem cw_207 : Cond.code ⟨"IllLightModel", "shadeOf", "(I)I"⟩ prog_11_method_56_code 4 (some .int) ∈ pm_tb := List.mem_filter.mpr ⟨(List.mem_append_right (k2_sels lw_privs) (List.mem_append_right _ (List.mem_append_right _ (List.mem_append_right _ (List.mem_append_right _ (List.mem_append_right _ (List.mem_append_left _ (List.mem_of_getElem? (l := tables_1_6) (i := 205) rfl)))))))), rfl⟩
theorem cw_208 : Cond.code ⟨"IllLightModel", "isNearer", "(II)Z"⟩ prog_11_method_57_code 3 (some .boolean) ∈ pm_tb := List.mem_filter.mpr ⟨(List.mem_append_right (k2_sels lw_privs) (List.mem_append_right _ (List.mem_append_right _ (List.mem_append_right _ (List.mem_append_right _ (List.mem_append_right _ (List.mem_append_left _ (List.mem_of_getElem? (l := tables_1_6) (i := 223) rfl)))))))), rfl⟩
theorem cw_209 : Cond.code ⟨"IllLightModel", "isBeamed", "(I)Z"⟩ prog_11_method_58_code 3 (some .boolean) ∈ pm_tb := List.mem_filter.mpr ⟨(List.mem_append_right (k2_sels lw_privs) (List.mem_append_right _ (List.mem_append_right _ (List.mem_append_right _ (List.mem_append_right _ (List.mem_append_right _ (List.mem_append_left _ (List.mem_of_getElem? (l := tables_1_6) (i := 201) rfl)))))))), rfl⟩
theorem cw_210 : Cond.code ⟨"IllLightModel", "isGuarded", "(I)Z"⟩ prog_11_method_59_code 4 (some .boolean) ∈ pm_tb := List.mem_filter.mpr ⟨(List.mem_append_right (k2_sels lw_privs) (List.mem_append_right _ (List.mem_append_right _ (List.mem_append_right _ (List.mem_append_right _ (List.mem_append_right _ (List.mem_append_left _ (List.mem_of_getElem? (l := tables_1_6) (i := 231) rfl)))))))), rfl⟩
theorem cw_211 : Cond.code ⟨"IllLightModel", "isRock", "(I)Z"⟩ prog_11_method_60_code 2 (some .boolean) ∈ pm_tb := List.mem_filter.mpr ⟨(List.mem_append_right (k2_sels lw_privs) (List.mem_append_right _ (List.mem_append_right _ (List.mem_append_right _ (List.mem_append_right _ (List.mem_append_right _ (List.mem_append_left _ (List.mem_of_getElem? (l := tables_1_6) (i := 227) rfl)))))))), rfl⟩
theorem cw_212 : Cond.code ⟨"IllLightModel", "passesHour", "()V"⟩ prog_11_method_61_code 5 none ∈ pm_tb := List.mem_filter.mpr ⟨(List.mem_append_right (k2_sels lw_privs) (List.mem_append_right _ (List.mem_append_right _ (List.mem_append_right _ (List.mem_append_right _ (List.mem_append_right _ (List.mem_append_left _ (List.mem_of_getElem? (l := tables_1_6) (i := 193) rfl)))))))), rfl⟩
theorem cw_213 : Cond.code ⟨"IllLightModel", "does", "(IIII)Z"⟩ prog_11_method_62_code 6 (some .boolean) ∈ pm_tb := List.mem_filter.mpr ⟨(List.mem_append_right (k2_sels lw_privs) (List.mem_append_right _ (List.mem_append_right _ (List.mem_append_right _ (List.mem_append_right _ (List.mem_append_right _ (List.mem_append_left _ (List.mem_of_getElem? (l := tables_1_6) (i := 189) rfl)))))))), rfl⟩
theorem cw_214 : Cond.code ⟨"IllLightModel", "runs", "(I)V"⟩ prog_11_method_63_code 2 none ∈ pm_tb := List.mem_filter.mpr ⟨(List.mem_append_right (k2_sels lw_privs) (List.mem_append_right _ (List.mem_append_right _ (List.mem_append_right _ (List.mem_append_right _ (List.mem_append_right _ (List.mem_append_left _ (List.mem_of_getElem? (l := tables_1_6) (i := 181) rfl)))))))), rfl⟩
theorem cw_215 : Cond.code ⟨"IllLightModel", "stop", "(II)I"⟩ prog_11_method_64_code 3 (some .int) ∈ pm_tb := List.mem_filter.mpr ⟨(List.mem_append_right (k2_sels lw_privs) (List.mem_append_right _ (List.mem_append_right _ (List.mem_append_right _ (List.mem_append_right _ (List.mem_append_right _ (List.mem_append_left _ (List.mem_of_getElem? (l := tables_1_6) (i := 177) rfl)))))))), rfl⟩
theorem cw_216 : Cond.code ⟨"IllLightModel", "nowOf", "(I)I"⟩ prog_11_method_65_code 4 (some .int) ∈ pm_tb := List.mem_filter.mpr ⟨(List.mem_append_right (k2_sels lw_privs) (List.mem_append_right _ (List.mem_append_right _ (List.mem_append_right _ (List.mem_append_right _ (List.mem_append_right _ (List.mem_append_right _ (List.mem_of_getElem? (l := tables_1_7) (i := 3) rfl)))))))), rfl⟩
theorem cw_217 : Cond.code ⟨"IllLightModel", "state", "(IIII)I"⟩ prog_11_method_66_code 5 (some .int) ∈ pm_tb := List.mem_filter.mpr ⟨(List.mem_append_right (k2_sels lw_privs) (List.mem_append_right _ (List.mem_append_right _ (List.mem_append_right _ (List.mem_append_right _ (List.mem_append_right _ (List.mem_append_left _ (List.mem_of_getElem? (l := tables_1_6) (i := 239) rfl)))))))), rfl⟩
theorem cw_218 : Cond.code ⟨"IllLightModel", "isSafe", "(IIII)Z"⟩ prog_11_method_67_code 6 (some .boolean) ∈ pm_tb := List.mem_filter.mpr ⟨(List.mem_append_right (k2_sels lw_privs) (List.mem_append_right _ (List.mem_append_right _ (List.mem_append_right _ (List.mem_append_right _ (List.mem_append_right _ (List.mem_append_right _ (List.mem_of_getElem? (l := tables_1_7) (i := 19) rfl)))))))), rfl⟩
theorem cw_219 : Cond.code ⟨"IllLightModel", "goes", "(IIII)V"⟩ prog_11_method_68_code 8 none ∈ pm_tb := List.mem_filter.mpr ⟨(List.mem_append_right (k2_sels lw_privs) (List.mem_append_right _ (List.mem_append_right _ (List.mem_append_right _ (List.mem_append_right _ (List.mem_append_right _ (List.mem_append_right _ (List.mem_of_getElem? (l := tables_1_7) (i := 15) rfl)))))))), rfl⟩
theorem cw_220 : Cond.code ⟨"IllLightModel", "way", "(III)I"⟩ prog_11_method_69_code 4 (some .int) ∈ pm_tb := List.mem_filter.mpr ⟨(List.mem_append_right (k2_sels lw_privs) (List.mem_append_right _ (List.mem_append_right _ (List.mem_append_right _ (List.mem_append_right _ (List.mem_append_right _ (List.mem_append_right _ (List.mem_of_getElem? (l := tables_1_7) (i := 7) rfl)))))))), rfl⟩
theorem cw_221 : Cond.code ⟨"IllLightModel", "free", "(IIII)I"⟩ prog_11_method_70_code 7 (some .int) ∈ pm_tb := List.mem_filter.mpr ⟨(List.mem_append_right (k2_sels lw_privs) (List.mem_append_right _ (List.mem_append_right _ (List.mem_append_right _ (List.mem_append_right _ (List.mem_append_right _ (List.mem_append_right _ (List.mem_of_getElem? (l := tables_1_7) (i := 23) rfl)))))))), rfl⟩
theorem cw_222 : Cond.code ⟨"IllLightModel", "comes", "(IIII)Z"⟩ prog_11_method_71_code 5 (some .boolean) ∈ pm_tb := List.mem_filter.mpr ⟨(List.mem_append_right (k2_sels lw_privs) (List.mem_append_right _ (List.mem_append_right _ (List.mem_append_right _ (List.mem_append_right _ (List.mem_append_right _ (List.mem_append_right _ (List.mem_of_getElem? (l := tables_1_7) (i := 38) rfl)))))))), rfl⟩
theorem cw_223 : Cond.code ⟨"IllLightModel", "bitsOf", "(I)I"⟩ prog_11_method_72_code 3 (some .int) ∈ pm_tb := List.mem_filter.mpr ⟨(List.mem_append_right (k2_sels lw_privs) (List.mem_append_right _ (List.mem_append_right _ (List.mem_append_right _ (List.mem_append_right _ (List.mem_append_right _ (List.mem_append_right _ (List.mem_of_getElem? (l := tables_1_7) (i := 34) rfl)))))))), rfl⟩
theorem cw_224 : Cond.code ⟨"IllLightModel", "takenOf", "(III)I"⟩ prog_11_method_73_code 6 (some .int) ∈ pm_tb := List.mem_filter.mpr ⟨(List.mem_append_right (k2_sels lw_privs) (List.mem_append_right _ (List.mem_append_right _ (List.mem_append_right _ (List.mem_append_right _ (List.mem_append_right _ (List.mem_append_right _ (List.mem_of_getElem? (l := tables_1_7) (i := 31) rfl)))))))), rfl⟩
theorem cw_225 : Cond.code ⟨"IllLightModel", "lulledOf", "(III)I"⟩ prog_11_method_74_code 7 (some .int) ∈ pm_tb := List.mem_filter.mpr ⟨(List.mem_append_right (k2_sels lw_privs) (List.mem_append_right _ (List.mem_append_right _ (List.mem_append_right _ (List.mem_append_right _ (List.mem_append_right _ (List.mem_append_right _ (List.mem_of_getElem? (l := tables_1_7) (i := 54) rfl)))))))), rfl⟩
theorem cw_226 : Cond.code ⟨"IllLightModel", "illOf", "(III)I"⟩ prog_11_method_75_code 5 (some .int) ∈ pm_tb := List.mem_filter.mpr ⟨(List.mem_append_right (k2_sels lw_privs) (List.mem_append_right _ (List.mem_append_right _ (List.mem_append_right _ (List.mem_append_right _ (List.mem_append_right _ (List.mem_append_right _ (List.mem_of_getElem? (l := tables_1_7) (i := 42) rfl)))))))), rfl⟩
theorem cw_227 : Cond.code ⟨"IllLightModel", "thrownOf", "(III)I"⟩ prog_11_method_76_code 6 (some .int) ∈ pm_tb := List.mem_filter.mpr ⟨(List.mem_append_right (k2_sels lw_privs) (List.mem_append_right _ (List.mem_append_right _ (List.mem_append_right _ (List.mem_append_right _ (List.mem_append_right _ (List.mem_append_right _ (List.mem_of_getElem? (l := tables_1_7) (i := 46) rfl)))))))), rfl⟩
theorem cw_228 : Cond.code ⟨"IllLightModel", "leaveOf", "(III)I"⟩ prog_11_method_77_code 5 (some .int) ∈ pm_tb := List.mem_filter.mpr ⟨(List.mem_append_right (k2_sels lw_privs) (List.mem_append_right _ (List.mem_append_right _ (List.mem_append_right _ (List.mem_append_right _ (List.mem_append_right _ (List.mem_append_right _ (List.mem_of_getElem? (l := tables_1_7) (i := 50) rfl)))))))), rfl⟩
theorem cw_229 : Cond.code ⟨"IllLightModel", "helps", "(IIIII)I"⟩ prog_11_method_78_code 6 (some .int) ∈ pm_tb := List.mem_filter.mpr ⟨(List.mem_append_right (k2_sels lw_privs) (List.mem_append_right _ (List.mem_append_right _ (List.mem_append_right _ (List.mem_append_right _ (List.mem_append_right _ (List.mem_append_right _ (List.mem_of_getElem? (l := tables_1_7) (i := 27) rfl)))))))), rfl⟩
theorem cw_230 : Cond.code ⟨"IllLightModel", "openOf", "(I)I"⟩ prog_11_method_79_code 4 (some .int) ∈ pm_tb := List.mem_filter.mpr ⟨(List.mem_append_right (k2_sels lw_privs) (List.mem_append_right _ (List.mem_append_right _ (List.mem_append_right _ (List.mem_append_right _ (List.mem_append_right _ (List.mem_append_right _ (List.mem_of_getElem? (l := tables_1_7) (i := 66) rfl)))))))), rfl⟩
theorem cw_231 : Cond.code ⟨"IllLightModel", "wins", "(III)Z"⟩ prog_11_method_80_code 4 (some .boolean) ∈ pm_tb := List.mem_filter.mpr ⟨(List.mem_append_right (k2_sels lw_privs) (List.mem_append_right _ (List.mem_append_right _ (List.mem_append_right _ (List.mem_append_right _ (List.mem_append_right _ (List.mem_append_right _ (List.mem_of_getElem? (l := tables_1_7) (i := 70) rfl)))))))), rfl⟩
theorem cw_232 : Cond.code ⟨"IllLightModel", "isRest", "(III)Z"⟩ prog_11_method_81_code 8 (some .boolean) ∈ pm_tb := List.mem_filter.mpr ⟨(List.mem_append_right (k2_sels lw_privs) (List.mem_append_right _ (List.mem_append_right _ (List.mem_append_right _ (List.mem_append_right _ (List.mem_append_right _ (List.mem_append_right _ (List.mem_of_getElem? (l := tables_1_7) (i := 74) rfl)))))))), rfl⟩
theorem cw_233 : Cond.code ⟨"IllLightModel", "safestOf", "(I)I"⟩ prog_11_method_82_code 7 (some .int) ∈ pm_tb := List.mem_filter.mpr ⟨(List.mem_append_right (k2_sels lw_privs) (List.mem_append_right _ (List.mem_append_right _ (List.mem_append_right _ (List.mem_append_right _ (List.mem_append_right _ (List.mem_append_right _ (List.mem_of_getElem? (l := tables_1_7) (i := 62) rfl)))))))), rfl⟩
theorem cw_234 : Cond.code ⟨"IllLightModel", "rest", "(III)I"⟩ prog_11_method_83_code 6 (some .int) ∈ pm_tb := List.mem_filter.mpr ⟨(List.mem_append_right (k2_sels lw_privs) (List.mem_append_right _ (List.mem_append_right _ (List.mem_append_right _ (List.mem_append_right _ (List.mem_append_right _ (List.mem_append_right _ (List.mem_of_getElem? (l := tables_1_7) (i := 58) rfl)))))))), rfl⟩
theorem cw_235 : Cond.code ⟨"IllLightModel", "common", "(JJ)J"⟩ prog_11_method_84_code 10 (some .long) ∈ pm_tb := List.mem_filter.mpr ⟨(List.mem_append_right (k2_sels lw_privs) (List.mem_append_right _ (List.mem_append_right _ (List.mem_append_right _ (List.mem_append_right _ (List.mem_append_right _ (List.mem_append_right _ (List.mem_of_getElem? (l := tables_1_7) (i := 86) rfl)))))))), rfl⟩
theorem cw_236 : Cond.code ⟨"IllLightModel", "power", "(JI)J"⟩ prog_11_method_85_code 6 (some .long) ∈ pm_tb := List.mem_filter.mpr ⟨(List.mem_append_right (k2_sels lw_privs) (List.mem_append_right _ (List.mem_append_right _ (List.mem_append_right _ (List.mem_append_right _ (List.mem_append_right _ (List.mem_append_right _ (List.mem_of_getElem? (l := tables_1_7) (i := 83) rfl)))))))), rfl⟩
theorem cw_237 : Cond.code ⟨"IllLightModel", "premium", "(IIIZ)J"⟩ prog_11_method_86_code 9 (some .long) ∈ pm_tb := List.mem_filter.mpr ⟨(List.mem_append_right (k2_sels lw_privs) (List.mem_append_right _ (List.mem_append_right _ (List.mem_append_right _ (List.mem_append_right _ (List.mem_append_right _ (List.mem_append_right _ (List.mem_of_getElem? (l := tables_1_7) (i := 78) rfl)))))))), rfl⟩
theorem cw_238 : Cond.code ⟨"IllLightModel", "isLog", "(I)Z"⟩ prog_11_method_87_code 2 (some .boolean) ∈ pm_tb := List.mem_filter.mpr ⟨(List.mem_append_right (k2_sels lw_privs) (List.mem_append_right _ (List.mem_append_right _ (List.mem_append_right _ (List.mem_append_right _ (List.mem_append_right _ (List.mem_append_right _ (List.mem_of_getElem? (l := tables_1_7) (i := 94) rfl)))))))), rfl⟩
theorem cw_239 : Cond.code ⟨"IllLightModel", "log", "(II)I"⟩ prog_11_method_88_code 4 (some .int) ∈ pm_tb := List.mem_filter.mpr ⟨(List.mem_append_right (k2_sels lw_privs) (List.mem_append_right _ (List.mem_append_right _ (List.mem_append_right _ (List.mem_append_right _ (List.mem_append_right _ (List.mem_append_right _ (List.mem_of_getElem? (l := tables_1_7) (i := 90) rfl)))))))), rfl⟩
theorem cw_240 : Cond.code ⟨"IllLightModel", "isLitBy", "(II)Z"⟩ prog_11_method_89_code 3 (some .boolean) ∈ pm_tb := List.mem_filter.mpr ⟨(List.mem_append_right (k2_sels lw_privs) (List.mem_append_right _ (List.mem_append_right _ (List.mem_append_right _ (List.mem_append_right _ (List.mem_append_right _ (List.mem_append_right _ (List.mem_of_getElem? (l := tables_1_7) (i := 110) rfl)))))))), rfl⟩
theorem cw_241 : Cond.code ⟨"IllLightModel", "wrongBy", "(I)I"⟩ prog_11_method_90_code 4 (some .int) ∈ pm_tb := List.mem_filter.mpr ⟨(List.mem_append_right (k2_sels lw_privs) (List.mem_append_right _ (List.mem_append_right _ (List.mem_append_right _ (List.mem_append_right _ (List.mem_append_right _ (List.mem_append_right _ (List.mem_of_getElem? (l := tables_1_7) (i := 106) rfl)))))))), rfl⟩
theorem cw_242 : Cond.code ⟨"IllLightModel", "countOf", "(I)I"⟩ prog_11_method_91_code 4 (some .int) ∈ pm_tb := List.mem_filter.mpr ⟨(List.mem_append_right (k2_sels lw_privs) (List.mem_append_right _ (List.mem_append_right _ (List.mem_append_right _ (List.mem_append_right _ (List.mem_append_right _ (List.mem_append_right _ (List.mem_of_getElem? (l := tables_1_7) (i := 102) rfl)))))))), rfl⟩
theorem cw_243 : Cond.code ⟨"IllLightModel", "askOf", "()I"⟩ prog_11_method_92_code 6 (some .int) ∈ pm_tb := List.mem_filter.mpr ⟨(List.mem_append_right (k2_sels lw_privs) (List.mem_append_right _ (List.mem_append_right _ (List.mem_append_right _ (List.mem_append_right _ (List.mem_append_right _ (List.mem_append_right _ (List.mem_of_getElem? (l := tables_1_7) (i := 114) rfl)))))))), rfl⟩
theorem cw_244 : Cond.code ⟨"IllLightModel", "fits", "(II)I"⟩ prog_11_method_93_code 5 (some .int) ∈ pm_tb := List.mem_filter.mpr ⟨(List.mem_append_right (k2_sels lw_privs) (List.mem_append_right _ (List.mem_append_right _ (List.mem_append_right _ (List.mem_append_right _ (List.mem_append_right _ (List.mem_append_right _ (List.mem_of_getElem? (l := tables_1_7) (i := 98) rfl)))))))), rfl⟩
theorem cw_245 : Cond.code ⟨"IllLightModel", "weightOf", "(I)J"⟩ prog_11_method_94_code 5 (some .long) ∈ pm_tb := List.mem_filter.mpr ⟨(List.mem_append_right (k2_sels lw_privs) (List.mem_append_right _ (List.mem_append_right _ (List.mem_append_right _ (List.mem_append_right _ (List.mem_append_right _ (List.mem_append_right _ (List.mem_of_getElem? (l := tables_1_7) (i := 122) rfl)))))))), rfl⟩
theorem cw_246 : Cond.code ⟨"IllLightModel", "belief", "(IIZ)J"⟩ prog_11_method_95_code 11 (some .long) ∈ pm_tb := List.mem_filter.mpr ⟨(List.mem_append_right (k2_sels lw_privs) (List.mem_append_right _ (List.mem_append_right _ (List.mem_append_right _ (List.mem_append_right _ (List.mem_append_right _ (List.mem_append_right _ (List.mem_of_getElem? (l := tables_1_7) (i := 118) rfl)))))))), rfl⟩
theorem cw_247 : Cond.code ⟨"IllLightModel", "darkest", "(I)I"⟩ prog_11_method_96_code 5 (some .int) ∈ pm_tb := List.mem_filter.mpr ⟨(List.mem_append_right (k2_sels lw_privs) (List.mem_append_right _ (List.mem_append_right _ (List.mem_append_right _ (List.mem_append_right _ (List.mem_append_right _ (List.mem_append_right _ (List.mem_of_getElem? (l := tables_1_7) (i := 130) rfl)))))))), rfl⟩
theorem cw_248 : Cond.code ⟨"IllLightModel", "hours", "(III)I"⟩ prog_11_method_97_code 9 (some .int) ∈ pm_tb := List.mem_filter.mpr ⟨(List.mem_append_right (k2_sels lw_privs) (List.mem_append_right _ (List.mem_append_right _ (List.mem_append_right _ (List.mem_append_right _ (List.mem_append_right _ (List.mem_append_right _ (List.mem_of_getElem? (l := tables_1_7) (i := 126) rfl)))))))), rfl⟩
theorem cw_249 : Cond.code ⟨"IllLightModel", "shade", "(II)I"⟩ prog_11_method_98_code 6 (some .int) ∈ pm_tb := List.mem_filter.mpr ⟨(List.mem_append_right (k2_sels lw_privs) (List.mem_append_right _ (List.mem_append_right _ (List.mem_append_right _ (List.mem_append_right _ (List.mem_append_right _ (List.mem_append_right _ (List.mem_of_getElem? (l := tables_1_7) (i := 134) rfl)))))))), rfl⟩
theorem cw_250 : Cond.code ⟨"IllLightModel", "leaves", "(IIII)I"⟩ prog_11_method_99_code 7 (some .int) ∈ pm_tb := List.mem_filter.mpr ⟨(List.mem_append_right (k2_sels lw_privs) (List.mem_append_right _ (List.mem_append_right _ (List.mem_append_right _ (List.mem_append_right _ (List.mem_append_right _ (List.mem_append_right _ (List.mem_of_getElem? (l := tables_1_7) (i := 138) rfl)))))))), rfl⟩
theorem cw_251 : Cond.code ⟨"IllLightModel", "passes", "(III)V"⟩ prog_11_method_100_code 7 none ∈ pm_tb := List.mem_filter.mpr ⟨(List.mem_append_right (k2_sels lw_privs) (List.mem_append_right _ (List.mem_append_right _ (List.mem_append_right _ (List.mem_append_right _ (List.mem_append_right _ (List.mem_append_right _ (List.mem_of_getElem? (l := tables_1_7) (i := 146) rfl)))))))), rfl⟩
theorem cw_252 : Cond.code ⟨"IllLightModel", "back", "(III)I"⟩ prog_11_method_101_code 6 (some .int) ∈ pm_tb := List.mem_filter.mpr ⟨(List.mem_append_right (k2_sels lw_privs) (List.mem_append_right _ (List.mem_append_right _ (List.mem_append_right _ (List.mem_append_right _ (List.mem_append_right _ (List.mem_append_right _ (List.mem_of_getElem? (l := tables_1_7) (i := 142) rfl)))))))), rfl⟩
theorem cw_253 : Cond.code ⟨"IllLightModel", "seenBy", "(III)I"⟩ prog_11_method_102_code 6 (some .int) ∈ pm_tb := List.mem_filter.mpr ⟨(List.mem_append_right (k2_sels lw_privs) (List.mem_append_right _ (List.mem_append_right _ (List.mem_append_right _ (List.mem_append_right _ (List.mem_append_right _ (List.mem_append_right _ (List.mem_of_getElem? (l := tables_1_7) (i := 158) rfl)))))))), rfl⟩
theorem cw_254 : Cond.code ⟨"IllLightModel", "crossed", "(I)I"⟩ prog_11_method_103_code 7 (some .int) ∈ pm_tb := List.mem_filter.mpr ⟨(List.mem_append_right (k2_sels lw_privs) (List.mem_append_right _ (List.mem_append_right _ (List.mem_append_right _ (List.mem_append_right _ (List.mem_append_right _ (List.mem_append_right _ (List.mem_of_getElem? (l := tables_1_7) (i := 154) rfl)))))))), rfl⟩
theorem cw_255 : Cond.code ⟨"IllLightModel", "watch", "(III)I"⟩ prog_11_method_104_code 10 (some .int) ∈ pm_tb := List.mem_filter.mpr ⟨(List.mem_append_right (k2_sels lw_privs) (List.mem_append_right _ (List.mem_append_right _ (List.mem_append_right _ (List.mem_append_right _ (List.mem_append_right _ (List.mem_append_right _ (List.mem_of_getElem? (l := tables_1_7) (i := 150) rfl)))))))), rfl⟩
theorem cw_256 : Cond.code ⟨"IllLightModel", "mutiny", "(IIIZ)I"⟩ prog_11_method_105_code 8 (some .int) ∈ pm_tb := List.mem_filter.mpr ⟨(List.mem_append_right (k2_sels lw_privs) (List.mem_append_right _ (List.mem_append_right _ (List.mem_append_right _ (List.mem_append_right _ (List.mem_append_right _ (List.mem_append_right _ (List.mem_of_getElem? (l := tables_1_7) (i := 162) rfl)))))))), rfl⟩
theorem cw_257 : Cond.code ⟨"IllLightModel", "fraction", "(Z)J"⟩ prog_11_method_106_code 2 (some .long) ∈ pm_tb := List.mem_filter.mpr ⟨(List.mem_append_right (k2_sels lw_privs) (List.mem_append_right _ (List.mem_append_right _ (List.mem_append_right _ (List.mem_append_right _ (List.mem_append_right _ (List.mem_append_right _ (List.mem_of_getElem? (l := tables_1_7) (i := 174) rfl)))))))), rfl⟩
theorem cw_258 : Cond.code ⟨"IllLightModel", "weighs", "(ZJ)V"⟩ prog_11_method_107_code 4 none ∈ pm_tb := List.mem_filter.mpr ⟨(List.mem_append_right (k2_sels lw_privs) (List.mem_append_right _ (List.mem_append_right _ (List.mem_append_right _ (List.mem_append_right _ (List.mem_append_right _ (List.mem_append_right _ (List.mem_of_getElem? (l := tables_1_7) (i := 170) rfl)))))))), rfl⟩
theorem cw_259 : Cond.code ⟨"IllLightModel", "next", "(IIZ)J"⟩ prog_11_method_108_code 5 (some .long) ∈ pm_tb := List.mem_filter.mpr ⟨(List.mem_append_right (k2_sels lw_privs) (List.mem_append_right _ (List.mem_append_right _ (List.mem_append_right _ (List.mem_append_right _ (List.mem_append_right _ (List.mem_append_right _ (List.mem_of_getElem? (l := tables_1_7) (i := 166) rfl)))))))), rfl⟩
theorem cw_260 : Cond.code ⟨"IllLightModel", "both", "(IIIZ)J"⟩ prog_11_method_109_code 6 (some .long) ∈ pm_tb := List.mem_filter.mpr ⟨(List.mem_append_right (k2_sels lw_privs) (List.mem_append_right _ (List.mem_append_right _ (List.mem_append_right _ (List.mem_append_right _ (List.mem_append_right _ (List.mem_append_right _ (List.mem_of_getElem? (l := tables_1_7) (i := 178) rfl)))))))), rfl⟩
theorem cw_261 : Cond.code ⟨"IllLightModel", "below", "(I)I"⟩ prog_11_method_110_code 2 (some .int) ∈ pm_tb := List.mem_filter.mpr ⟨(List.mem_append_right (k2_sels lw_privs) (List.mem_append_right _ (List.mem_append_right _ (List.mem_append_right _ (List.mem_append_right _ (List.mem_append_right _ (List.mem_append_right _ (List.mem_of_getElem? (l := tables_1_7) (i := 190) rfl)))))))), rfl⟩
theorem cw_262 : Cond.code ⟨"IllLightModel", "draws", "()V"⟩ prog_11_method_111_code 4 none ∈ pm_tb := List.mem_filter.mpr ⟨(List.mem_append_right (k2_sels lw_privs) (List.mem_append_right _ (List.mem_append_right _ (List.mem_append_right _ (List.mem_append_right _ (List.mem_append_right _ (List.mem_append_right _ (List.mem_of_getElem? (l := tables_1_7) (i := 186) rfl)))))))), rfl⟩
theorem cw_263 : Cond.code ⟨"IllLightModel", "drawn", "(IIII)I"⟩ prog_11_method_112_code 6 (some .int) ∈ pm_tb := List.mem_filter.mpr ⟨(List.mem_append_right (k2_sels lw_privs) (List.mem_append_right _ (List.mem_append_right _ (List.mem_append_right _ (List.mem_append_right _ (List.mem_append_right _ (List.mem_append_right _ (List.mem_of_getElem? (l := tables_1_7) (i := 182) rfl)))))))), rfl⟩
theorem cw_264 : Cond.code ⟨"IllLightModel", "count", "(I)I"⟩ prog_11_method_113_code 2 (some .int) ∈ pm_tb := List.mem_filter.mpr ⟨(List.mem_append_right (k2_sels lw_privs) (List.mem_append_right _ (List.mem_append_right _ (List.mem_append_right _ (List.mem_append_right _ (List.mem_append_right _ (List.mem_append_right _ (List.mem_of_getElem? (l := tables_1_7) (i := 195) rfl)))))))), rfl⟩
theorem cw_265 : Cond.code ⟨"IllLightModel", "image", "(I)Z"⟩ prog_11_method_114_code 3 (some .boolean) ∈ pm_tb := List.mem_filter.mpr ⟨(List.mem_append_right (k2_sels lw_privs) (List.mem_append_right _ (List.mem_append_right _ (List.mem_append_right _ (List.mem_append_right _ (List.mem_append_right _ (List.mem_append_right _ (List.mem_of_getElem? (l := tables_1_7) (i := 199) rfl)))))))), rfl⟩
theorem cw_266 : Cond.code ⟨"IllLightModel", "again", "(I)Z"⟩ prog_11_method_115_code 3 (some .boolean) ∈ pm_tb := List.mem_filter.mpr ⟨(List.mem_append_right (k2_sels lw_privs) (List.mem_append_right _ (List.mem_append_right _ (List.mem_append_right _ (List.mem_append_right _ (List.mem_append_right _ (List.mem_append_right _ (List.mem_of_getElem? (l := tables_1_7) (i := 203) rfl)))))))), rfl⟩
theorem cw_267 : Cond.code ⟨"java/lang/Integer", "bitCount", "(I)I"⟩ prog_12_method_49_code 1 (some .int) ∈ pm_tb := List.mem_filter.mpr ⟨(List.mem_append_right (k2_sels lw_privs) (List.mem_append_right _ (List.mem_append_right _ (List.mem_append_right _ (List.mem_append_left _ (List.mem_of_getElem? (l := tables_1_4) (i := 88) rfl)))))), rfl⟩
theorem cw_268 : Cond.code ⟨"java/lang/Long", "bitCount", "(J)I"⟩ prog_13_method_50_code 2 (some .int) ∈ pm_tb := List.mem_filter.mpr ⟨(List.mem_append_right (k2_sels lw_privs) (List.mem_append_right _ (List.mem_append_right _ (List.mem_append_right _ (List.mem_append_left _ (List.mem_of_getElem? (l := tables_1_4) (i := 73) rfl)))))), rfl⟩
theorem cw_269 : Cond.code ⟨"java/lang/String", "length", "()I"⟩ prog_15_method_54_code 1 (some .int) ∈ pm_tb := List.mem_filter.mpr ⟨(List.mem_append_right (k2_sels lw_privs) (List.mem_append_right _ (List.mem_append_left _ (List.mem_of_getElem? (l := tables_1_2) (i := 186) rfl)))), rfl⟩
theorem cw_270 : Cond.code ⟨"java/lang/String", "charAt", "(I)C"⟩ prog_15_method_56_code 2 (some .char) ∈ pm_tb := List.mem_filter.mpr ⟨(List.mem_append_right (k2_sels lw_privs) (List.mem_append_right _ (List.mem_append_left _ (List.mem_of_getElem? (l := tables_1_2) (i := 196) rfl)))), rfl⟩
theorem cw_271 : Cond.code ⟨"java/lang/String", "coder", "()B"⟩ prog_15_method_152_code 1 (some .byte) ∈ pm_tb := List.mem_filter.mpr ⟨(List.mem_append_right (k2_sels lw_privs) (List.mem_append_right _ (List.mem_append_left _ (List.mem_of_getElem? (l := tables_1_2) (i := 190) rfl)))), rfl⟩
theorem cw_272 : Cond.code ⟨"java/lang/String", "isLatin1", "()Z"⟩ prog_15_method_154_code 1 (some .boolean) ∈ pm_tb := List.mem_filter.mpr ⟨(List.mem_append_right (k2_sels lw_privs) (List.mem_append_right _ (List.mem_append_left _ (List.mem_of_getElem? (l := tables_1_2) (i := 200) rfl)))), rfl⟩
theorem cw_273 : Cond.code ⟨"java/lang/String", "checkIndex", "(II)V"⟩ prog_15_method_155_code 2 none ∈ pm_tb := List.mem_filter.mpr ⟨(List.mem_append_right (k2_sels lw_privs) (List.mem_append_right _ (List.mem_append_left _ (List.mem_of_getElem? (l := tables_1_2) (i := 206) rfl)))), rfl⟩
theorem cw_274 : Cond.code ⟨"java/lang/StringLatin1", "charAt", "([BI)C"⟩ prog_16_method_2_code 2 (some .char) ∈ pm_tb := List.mem_filter.mpr ⟨(List.mem_append_right (k2_sels lw_privs) (List.mem_append_right _ (List.mem_append_left _ (List.mem_of_getElem? (l := tables_1_2) (i := 203) rfl)))), rfl⟩
theorem cw_275 : Cond.code ⟨"jdk/internal/util/Preconditions", "checkIndex", "(IILjava/util/function/BiFunction;)I"⟩ prog_19_method_11_code 3 (some .int) ∈ pm_tb := List.mem_filter.mpr ⟨(List.mem_append_right (k2_sels lw_privs) (List.mem_append_right _ (List.mem_append_left _ (List.mem_of_getElem? (l := tables_1_2) (i := 211) rfl)))), rfl⟩
def pm_cwm (m : Nat) : Prop := Cond.code (pm_y m) (pm_by m) (pm_mxl m) (pm_rt0 m) ∈ pm_tb
theorem cwm_0 : ∀ i, i < 20 → pm_cwm (i + 0)
  | 0, _ => cw_0
  | 1, _ => cw_1
  | 2, _ => cw_2
  | 3, _ => cw_3
  | 4, _ => cw_4
  | 5, _ => cw_5
  | 6, _ => cw_6
  | 7, _ => cw_7
  | 8, _ => cw_8
  | 9, _ => cw_9
  | 10, _ => cw_10
  | 11, _ => cw_11
  | 12, _ => cw_12
  | 13, _ => cw_13
  | 14, _ => cw_14
  | 15, _ => cw_15
  | 16, _ => cw_16
  | 17, _ => cw_17
  | 18, _ => cw_18
  | 19, _ => cw_19
  | n + 20, h => absurd h (by omega)
theorem cwm_20 : ∀ i, i < 20 → pm_cwm (i + 20)
  | 0, _ => cw_20
  | 1, _ => cw_21
  | 2, _ => cw_22
  | 3, _ => cw_23
  | 4, _ => cw_24
  | 5, _ => cw_25
  | 6, _ => cw_26
  | 7, _ => cw_27
  | 8, _ => cw_28
  | 9, _ => cw_29
  | 10, _ => cw_30
  | 11, _ => cw_31
  | 12, _ => cw_32
  | 13, _ => cw_33
  | 14, _ => cw_34
  | 15, _ => cw_35
  | 16, _ => cw_36
  | 17, _ => cw_37
  | 18, _ => cw_38
  | 19, _ => cw_39
  | n + 20, h => absurd h (by omega)
theorem cwm_40 : ∀ i, i < 20 → pm_cwm (i + 40)
  | 0, _ => cw_40
  | 1, _ => cw_41
  | 2, _ => cw_42
  | 3, _ => cw_43
  | 4, _ => cw_44
  | 5, _ => cw_45
  | 6, _ => cw_46
  | 7, _ => cw_47
  | 8, _ => cw_48
  | 9, _ => cw_49
  | 10, _ => cw_50
  | 11, _ => cw_51
  | 12, _ => cw_52
  | 13, _ => cw_53
  | 14, _ => cw_54
  | 15, _ => cw_55
  | 16, _ => cw_56
  | 17, _ => cw_57
  | 18, _ => cw_58
  | 19, _ => cw_59
  | n + 20, h => absurd h (by omega)
theorem cwm_60 : ∀ i, i < 20 → pm_cwm (i + 60)
  | 0, _ => cw_60
  | 1, _ => cw_61
  | 2, _ => cw_62
  | 3, _ => cw_63
  | 4, _ => cw_64
  | 5, _ => cw_65
  | 6, _ => cw_66
  | 7, _ => cw_67
  | 8, _ => cw_68
  | 9, _ => cw_69
  | 10, _ => cw_70
  | 11, _ => cw_71
  | 12, _ => cw_72
  | 13, _ => cw_73
  | 14, _ => cw_74
  | 15, _ => cw_75
  | 16, _ => cw_76
  | 17, _ => cw_77
  | 18, _ => cw_78
  | 19, _ => cw_79
  | n + 20, h => absurd h (by omega)
theorem cwm_80 : ∀ i, i < 20 → pm_cwm (i + 80)
  | 0, _ => cw_80
  | 1, _ => cw_81
  | 2, _ => cw_82
  | 3, _ => cw_83
  | 4, _ => cw_84
  | 5, _ => cw_85
  | 6, _ => cw_86
  | 7, _ => cw_87
  | 8, _ => cw_88
  | 9, _ => cw_89
  | 10, _ => cw_90
  | 11, _ => cw_91
  | 12, _ => cw_92
  | 13, _ => cw_93
  | 14, _ => cw_94
  | 15, _ => cw_95
  | 16, _ => cw_96
  | 17, _ => cw_97
  | 18, _ => cw_98
  | 19, _ => cw_99
  | n + 20, h => absurd h (by omega)
theorem cwm_100 : ∀ i, i < 20 → pm_cwm (i + 100)
  | 0, _ => cw_100
  | 1, _ => cw_101
  | 2, _ => cw_102
  | 3, _ => cw_103
  | 4, _ => cw_104
  | 5, _ => cw_105
  | 6, _ => cw_106
  | 7, _ => cw_107
  | 8, _ => cw_108
  | 9, _ => cw_109
  | 10, _ => cw_110
  | 11, _ => cw_111
  | 12, _ => cw_112
  | 13, _ => cw_113
  | 14, _ => cw_114
  | 15, _ => cw_115
  | 16, _ => cw_116
  | 17, _ => cw_117
  | 18, _ => cw_118
  | 19, _ => cw_119
  | n + 20, h => absurd h (by omega)
theorem cwm_120 : ∀ i, i < 20 → pm_cwm (i + 120)
  | 0, _ => cw_120
  | 1, _ => cw_121
  | 2, _ => cw_122
  | 3, _ => cw_123
  | 4, _ => cw_124
  | 5, _ => cw_125
  | 6, _ => cw_126
  | 7, _ => cw_127
  | 8, _ => cw_128
  | 9, _ => cw_129
  | 10, _ => cw_130
  | 11, _ => cw_131
  | 12, _ => cw_132
  | 13, _ => cw_133
  | 14, _ => cw_134
  | 15, _ => cw_135
  | 16, _ => cw_136
  | 17, _ => cw_137
  | 18, _ => cw_138
  | 19, _ => cw_139
  | n + 20, h => absurd h (by omega)
theorem cwm_140 : ∀ i, i < 20 → pm_cwm (i + 140)
  | 0, _ => cw_140
  | 1, _ => cw_141
  | 2, _ => cw_142
  | 3, _ => cw_143
  | 4, _ => cw_144
  | 5, _ => cw_145
  | 6, _ => cw_146
  | 7, _ => cw_147
  | 8, _ => cw_148
  | 9, _ => cw_149
  | 10, _ => cw_150
  | 11, _ => cw_151
  | 12, _ => cw_152
  | 13, _ => cw_153
  | 14, _ => cw_154
  | 15, _ => cw_155
  | 16, _ => cw_156
  | 17, _ => cw_157
  | 18, _ => cw_158
  | 19, _ => cw_159
  | n + 20, h => absurd h (by omega)
theorem cwm_160 : ∀ i, i < 20 → pm_cwm (i + 160)
  | 0, _ => cw_160
  | 1, _ => cw_161
  | 2, _ => cw_162
  | 3, _ => cw_163
  | 4, _ => cw_164
  | 5, _ => cw_165
  | 6, _ => cw_166
  | 7, _ => cw_167
  | 8, _ => cw_168
  | 9, _ => cw_169
  | 10, _ => cw_170
  | 11, _ => cw_171
  | 12, _ => cw_172
  | 13, _ => cw_173
  | 14, _ => cw_174
  | 15, _ => cw_175
  | 16, _ => cw_176
  | 17, _ => cw_177
  | 18, _ => cw_178
  | 19, _ => cw_179
  | n + 20, h => absurd h (by omega)
theorem cwm_180 : ∀ i, i < 20 → pm_cwm (i + 180)
  | 0, _ => cw_180
  | 1, _ => cw_181
  | 2, _ => cw_182
  | 3, _ => cw_183
  | 4, _ => cw_184
  | 5, _ => cw_185
  | 6, _ => cw_186
  | 7, _ => cw_187
  | 8, _ => cw_188
  | 9, _ => cw_189
  | 10, _ => cw_190
  | 11, _ => cw_191
  | 12, _ => cw_192
  | 13, _ => cw_193
  | 14, _ => cw_194
  | 15, _ => cw_195
  | 16, _ => cw_196
  | 17, _ => cw_197
  | 18, _ => cw_198
  | 19, _ => cw_199
  | n + 20, h => absurd h (by omega)
theorem cwm_200 : ∀ i, i < 20 → pm_cwm (i + 200)
  | 0, _ => cw_200
  | 1, _ => cw_201
  | 2, _ => cw_202
  | 3, _ => cw_203
  | 4, _ => cw_204
  | 5, _ => cw_205
  | 6, _ => cw_206
  | 7, _ => cw_207
  | 8, _ => cw_208
  | 9, _ => cw_209
  | 10, _ => cw_210
  | 11, _ => cw_211
  | 12, _ => cw_212
  | 13, _ => cw_213
  | 14, _ => cw_214
  | 15, _ => cw_215
  | 16, _ => cw_216
  | 17, _ => cw_217
  | 18, _ => cw_218
  | 19, _ => cw_219
  | n + 20, h => absurd h (by omega)
theorem cwm_220 : ∀ i, i < 20 → pm_cwm (i + 220)
  | 0, _ => cw_220
  | 1, _ => cw_221
  | 2, _ => cw_222
  | 3, _ => cw_223
  | 4, _ => cw_224
  | 5, _ => cw_225
  | 6, _ => cw_226
  | 7, _ => cw_227
  | 8, _ => cw_228
  | 9, _ => cw_229
  | 10, _ => cw_230
  | 11, _ => cw_231
  | 12, _ => cw_232
  | 13, _ => cw_233
  | 14, _ => cw_234
  | 15, _ => cw_235
  | 16, _ => cw_236
  | 17, _ => cw_237
  | 18, _ => cw_238
  | 19, _ => cw_239
  | n + 20, h => absurd h (by omega)
theorem cwm_240 : ∀ i, i < 20 → pm_cwm (i + 240)
  | 0, _ => cw_240
  | 1, _ => cw_241
  | 2, _ => cw_242
  | 3, _ => cw_243
  | 4, _ => cw_244
  | 5, _ => cw_245
  | 6, _ => cw_246
  | 7, _ => cw_247
  | 8, _ => cw_248
  | 9, _ => cw_249
  | 10, _ => cw_250
  | 11, _ => cw_251
  | 12, _ => cw_252
  | 13, _ => cw_253
  | 14, _ => cw_254
  | 15, _ => cw_255
  | 16, _ => cw_256
  | 17, _ => cw_257
  | 18, _ => cw_258
  | 19, _ => cw_259
  | n + 20, h => absurd h (by omega)
theorem cwm_260 : ∀ i, i < 16 → pm_cwm (i + 260)
  | 0, _ => cw_260
  | 1, _ => cw_261
  | 2, _ => cw_262
  | 3, _ => cw_263
  | 4, _ => cw_264
  | 5, _ => cw_265
  | 6, _ => cw_266
  | 7, _ => cw_267
  | 8, _ => cw_268
  | 9, _ => cw_269
  | 10, _ => cw_270
  | 11, _ => cw_271
  | 12, _ => cw_272
  | 13, _ => cw_273
  | 14, _ => cw_274
  | 15, _ => cw_275
  | n + 16, h => absurd h (by omega)
theorem cwm_all {m : Nat} (h : m < 276) : pm_cwm m := by
  by_cases h0 : 0 ≤ m ∧ m < 20
  · have := cwm_0 (m - 0) (by omega)
    rw [Nat.sub_add_cancel h0.1] at this
    exact this
  by_cases h20 : 20 ≤ m ∧ m < 40
  · have := cwm_20 (m - 20) (by omega)
    rw [Nat.sub_add_cancel h20.1] at this
    exact this
  by_cases h40 : 40 ≤ m ∧ m < 60
  · have := cwm_40 (m - 40) (by omega)
    rw [Nat.sub_add_cancel h40.1] at this
    exact this
  by_cases h60 : 60 ≤ m ∧ m < 80
  · have := cwm_60 (m - 60) (by omega)
    rw [Nat.sub_add_cancel h60.1] at this
    exact this
  by_cases h80 : 80 ≤ m ∧ m < 100
  · have := cwm_80 (m - 80) (by omega)
    rw [Nat.sub_add_cancel h80.1] at this
    exact this
  by_cases h100 : 100 ≤ m ∧ m < 120
  · have := cwm_100 (m - 100) (by omega)
    rw [Nat.sub_add_cancel h100.1] at this
    exact this
  by_cases h120 : 120 ≤ m ∧ m < 140
  · have := cwm_120 (m - 120) (by omega)
    rw [Nat.sub_add_cancel h120.1] at this
    exact this
  by_cases h140 : 140 ≤ m ∧ m < 160
  · have := cwm_140 (m - 140) (by omega)
    rw [Nat.sub_add_cancel h140.1] at this
    exact this
  by_cases h160 : 160 ≤ m ∧ m < 180
  · have := cwm_160 (m - 160) (by omega)
    rw [Nat.sub_add_cancel h160.1] at this
    exact this
  by_cases h180 : 180 ≤ m ∧ m < 200
  · have := cwm_180 (m - 180) (by omega)
    rw [Nat.sub_add_cancel h180.1] at this
    exact this
  by_cases h200 : 200 ≤ m ∧ m < 220
  · have := cwm_200 (m - 200) (by omega)
    rw [Nat.sub_add_cancel h200.1] at this
    exact this
  by_cases h220 : 220 ≤ m ∧ m < 240
  · have := cwm_220 (m - 220) (by omega)
    rw [Nat.sub_add_cancel h220.1] at this
    exact this
  by_cases h240 : 240 ≤ m ∧ m < 260
  · have := cwm_240 (m - 240) (by omega)
    rw [Nat.sub_add_cancel h240.1] at this
    exact this
  by_cases h260 : 260 ≤ m ∧ m < 280
  · have := cwm_260 (m - 260) (by omega)
    rw [Nat.sub_add_cancel h260.1] at this
    exact this
  omega
theorem mck_0 : (List.range 20).all (fun i => pm_mck (i + 0)) = true := by decide +kernel
theorem mck_20 : (List.range 20).all (fun i => pm_mck (i + 20)) = true := by decide +kernel
theorem mck_40 : (List.range 20).all (fun i => pm_mck (i + 40)) = true := by decide +kernel
theorem mck_60 : (List.range 20).all (fun i => pm_mck (i + 60)) = true := by decide +kernel
theorem mck_80 : (List.range 20).all (fun i => pm_mck (i + 80)) = true := by decide +kernel
theorem mck_100 : (List.range 20).all (fun i => pm_mck (i + 100)) = true := by decide +kernel
theorem mck_120 : (List.range 20).all (fun i => pm_mck (i + 120)) = true := by decide +kernel
theorem mck_140 : (List.range 20).all (fun i => pm_mck (i + 140)) = true := by decide +kernel
theorem mck_160 : (List.range 20).all (fun i => pm_mck (i + 160)) = true := by decide +kernel
theorem mck_180 : (List.range 20).all (fun i => pm_mck (i + 180)) = true := by decide +kernel
theorem mck_200 : (List.range 20).all (fun i => pm_mck (i + 200)) = true := by decide +kernel
theorem mck_220 : (List.range 20).all (fun i => pm_mck (i + 220)) = true := by decide +kernel
theorem mck_240 : (List.range 20).all (fun i => pm_mck (i + 240)) = true := by decide +kernel
theorem mck_260 : (List.range 16).all (fun i => pm_mck (i + 260)) = true := by decide +kernel
theorem mck_all {m : Nat} (h : m < 276) : pm_mck m = true := by
  by_cases h0 : 0 ≤ m ∧ m < 20
  · have := List.all_eq_true.mp mck_0 (m - 0) (List.mem_range.mpr (by omega))
    rw [Nat.sub_add_cancel h0.1] at this
    exact this
  by_cases h20 : 20 ≤ m ∧ m < 40
  · have := List.all_eq_true.mp mck_20 (m - 20) (List.mem_range.mpr (by omega))
    rw [Nat.sub_add_cancel h20.1] at this
    exact this
  by_cases h40 : 40 ≤ m ∧ m < 60
  · have := List.all_eq_true.mp mck_40 (m - 40) (List.mem_range.mpr (by omega))
    rw [Nat.sub_add_cancel h40.1] at this
    exact this
  by_cases h60 : 60 ≤ m ∧ m < 80
  · have := List.all_eq_true.mp mck_60 (m - 60) (List.mem_range.mpr (by omega))
    rw [Nat.sub_add_cancel h60.1] at this
    exact this
  by_cases h80 : 80 ≤ m ∧ m < 100
  · have := List.all_eq_true.mp mck_80 (m - 80) (List.mem_range.mpr (by omega))
    rw [Nat.sub_add_cancel h80.1] at this
    exact this
  by_cases h100 : 100 ≤ m ∧ m < 120
  · have := List.all_eq_true.mp mck_100 (m - 100) (List.mem_range.mpr (by omega))
    rw [Nat.sub_add_cancel h100.1] at this
    exact this
  by_cases h120 : 120 ≤ m ∧ m < 140
  · have := List.all_eq_true.mp mck_120 (m - 120) (List.mem_range.mpr (by omega))
    rw [Nat.sub_add_cancel h120.1] at this
    exact this
  by_cases h140 : 140 ≤ m ∧ m < 160
  · have := List.all_eq_true.mp mck_140 (m - 140) (List.mem_range.mpr (by omega))
    rw [Nat.sub_add_cancel h140.1] at this
    exact this
  by_cases h160 : 160 ≤ m ∧ m < 180
  · have := List.all_eq_true.mp mck_160 (m - 160) (List.mem_range.mpr (by omega))
    rw [Nat.sub_add_cancel h160.1] at this
    exact this
  by_cases h180 : 180 ≤ m ∧ m < 200
  · have := List.all_eq_true.mp mck_180 (m - 180) (List.mem_range.mpr (by omega))
    rw [Nat.sub_add_cancel h180.1] at this
    exact this
  by_cases h200 : 200 ≤ m ∧ m < 220
  · have := List.all_eq_true.mp mck_200 (m - 200) (List.mem_range.mpr (by omega))
    rw [Nat.sub_add_cancel h200.1] at this
    exact this
  by_cases h220 : 220 ≤ m ∧ m < 240
  · have := List.all_eq_true.mp mck_220 (m - 220) (List.mem_range.mpr (by omega))
    rw [Nat.sub_add_cancel h220.1] at this
    exact this
  by_cases h240 : 240 ≤ m ∧ m < 260
  · have := List.all_eq_true.mp mck_240 (m - 240) (List.mem_range.mpr (by omega))
    rw [Nat.sub_add_cancel h240.1] at this
    exact this
  by_cases h260 : 260 ≤ m ∧ m < 276
  · have := List.all_eq_true.mp mck_260 (m - 260) (List.mem_range.mpr (by omega))
    rw [Nat.sub_add_cancel h260.1] at this
    exact this
  omega
theorem tf_lnk {m idx m' : Nat} (h : pm_lk (pm_nth pm_L (pm_own m) []) idx = some m') (h2 : m' < 1000) : Cond.methodLink (pm_on m) idx (pm_y m') ∈ pm_tb ∧ Cond.code (pm_y m') (pm_by m') (pm_mxl m') (pm_rt0 m') ∈ pm_tb ∧ plainName (pm_y m').cls = true ∧ pm_on m' = (pm_y m').cls ∧ Cond.initialized (pm_y m').cls ∈ pm_tb ∧ ((pm_y m').cls ≠ "java/lang/invoke/MethodHandle" ∧ (pm_y m').cls ≠ "java/lang/invoke/VarHandle") ∧ (pm_cls m' = 0 → Cond.static (pm_y m') ∈ pm_tb ∧ (parseMethodDescriptor (pm_y m').desc).map (fun d => d.parameters.length) = some (pm_na m')) ∧ (pm_cls m' ≠ 0 → (pm_cls m' ≤ 9 ∨ pm_cls m' = 61) ∧ Cond.instanceMethod (pm_y m') ∈ pm_tb ∧ Cond.selects (pm_cn m') (pm_y m') (pm_y m') ∈ pm_tb ∧ (pm_y m').cls = pm_cn m' ∧ (parseMethodDescriptor (pm_y m').desc).map (fun d => d.parameters.length + 1) = some (pm_na m')) := by
  obtain ⟨i, hi⟩ := pm_tab2 L2_eq (N := 17) (by decide) lck_all h
  unfold pm_lck at hi
  dsimp only at hi
  rw [if_neg (by omega), if_neg (by omega), if_neg (by omega), if_neg (by omega), Bool.and_eq_true, decide_eq_true_eq] at hi
  have hm := mck_all hi.1
  unfold pm_mck at hm
  split at hm
  simp only [Bool.and_eq_true, decide_eq_true_eq] at hm
  obtain ⟨⟨⟨⟨m2, m3⟩, m4⟩, m5⟩, m6⟩ := hm
  have m1 := cwm_all hi.1
  refine ⟨pm_is_tb hi.2, m1, m3, m4, pm_is_tb m2, m5, fun z => ?_, fun z => ?_⟩
  · rw [if_pos z] at m6
    simp only [Bool.and_eq_true, decide_eq_true_eq] at m6
    exact ⟨pm_is_tb m6.1, m6.2⟩
  · rw [if_neg z] at m6
    simp only [Bool.and_eq_true, decide_eq_true_eq] at m6
    obtain ⟨⟨⟨⟨n1, n2⟩, n3⟩, n4⟩, n5⟩ := m6
    exact ⟨n1, pm_is_tb n2, pm_is_tb n3, n4, n5⟩
theorem mth_ws : (lw_tbl.any (fun w => decide (w = Cond.static Lib.Math.abs.name) && goodWord w) && lw_tbl.any (fun w => decide (w = Cond.static Lib.Math.max.name) && goodWord w) && lw_tbl.any (fun w => decide (w = Cond.static Lib.Math.min.name) && goodWord w) && lw_tbl.any (fun w => decide (w = Cond.initialized "java/lang/Math") && goodWord w)) = true := by decide +kernel
theorem tf_mabs : Cond.code Lib.Math.abs.name Lib.Math.abs.code 1 (some .int) ∈ pm_tb := by
  have h : prog_14_method_59_code = Lib.Math.abs.code := by decide +kernel
  rw [← h]
  exact List.mem_filter.mpr ⟨(List.mem_append_right (k2_sels lw_privs) (List.mem_append_right _ (List.mem_append_right _ (List.mem_append_left _ (List.mem_of_getElem? (l := tables_1_3) (i := 213) rfl))))), rfl⟩
theorem tf_mmax : Cond.code Lib.Math.max.name Lib.Math.max.code 2 (some .int) ∈ pm_tb := by
  have h : prog_14_method_65_code = Lib.Math.max.code := by decide +kernel
  rw [← h]
  exact List.mem_filter.mpr ⟨(List.mem_append_right (k2_sels lw_privs) (List.mem_append_right _ (List.mem_append_right _ (List.mem_append_left _ (List.mem_of_getElem? (l := tables_1_3) (i := 46) rfl))))), rfl⟩
theorem tf_mmin : Cond.code Lib.Math.min.name Lib.Math.min.code 2 (some .int) ∈ pm_tb := by
  have h : prog_14_method_69_code = Lib.Math.min.code := by decide +kernel
  rw [← h]
  exact List.mem_filter.mpr ⟨(List.mem_append_right (k2_sels lw_privs) (List.mem_append_right _ (List.mem_append_right _ (List.mem_append_right _ (List.mem_append_left _ (List.mem_of_getElem? (l := tables_1_4) (i := 144) rfl)))))), rfl⟩
def pm_mn (n : Nat) : MethodName := match n with
  | 1001 => Lib.Math.abs.name
  | 1002 => Lib.Math.max.name
  | _ => Lib.Math.min.name
theorem tf_mth {m idx n : Nat} (h : pm_lk (pm_nth pm_L (pm_own m) []) idx = some n) (hn : n = 1001 ∨ n = 1002 ∨ n = 1003) : Cond.methodLink (pm_on m) idx (pm_mn n) ∈ pm_tb := by
  obtain ⟨i, hi⟩ := pm_tab2 L2_eq (N := 17) (by decide) lck_all h
  unfold pm_lck at hi
  dsimp only at hi
  rcases hn with z | z | z
  · subst z
    exact pm_is_tb hi
  · subst z
    exact pm_is_tb hi
  · subst z
    exact pm_is_tb hi
theorem acp_ws : (lw_tbl.any (fun w => decide (w = Cond.native arraycopyName) && goodWord w) && lw_tbl.any (fun w => decide (w = Cond.static arraycopyName) && goodWord w) && lw_tbl.any (fun w => decide (w = Cond.initialized "java/lang/System") && goodWord w)) = true := by decide +kernel
theorem pm_any_tb {w : Cond} (h : lw_tbl.any (fun v => decide (v = w) && goodWord v) = true) : w ∈ pm_tb := by
  obtain ⟨v, h1, h2⟩ := List.any_eq_true.mp h
  rw [Bool.and_eq_true, decide_eq_true_eq] at h2
  rw [← h2.1]
  exact List.mem_filter.mpr ⟨h1, h2.2⟩
theorem tf_mws : (Cond.static Lib.Math.abs.name ∈ pm_tb ∧ Cond.static Lib.Math.max.name ∈ pm_tb ∧ Cond.static Lib.Math.min.name ∈ pm_tb) ∧ Cond.initialized "java/lang/Math" ∈ pm_tb := by
  have h3 := mth_ws
  simp only [Bool.and_eq_true] at h3
  exact ⟨⟨pm_any_tb h3.1.1.1, pm_any_tb h3.1.1.2, pm_any_tb h3.1.2⟩, pm_any_tb h3.2⟩
theorem tf_acp {m idx : Nat} (h : pm_lk (pm_nth pm_L (pm_own m) []) idx = some 1000) : Cond.methodLink (pm_on m) idx arraycopyName ∈ pm_tb ∧ Cond.native arraycopyName ∈ pm_tb ∧ Cond.static arraycopyName ∈ pm_tb ∧ Cond.initialized "java/lang/System" ∈ pm_tb := by
  obtain ⟨i, hi⟩ := pm_tab2 L2_eq (N := 17) (by decide) lck_all h
  unfold pm_lck at hi
  dsimp only at hi
  rw [if_pos rfl] at hi
  have h3 := acp_ws
  simp only [Bool.and_eq_true] at h3
  exact ⟨pm_is_tb hi, pm_any_tb h3.1.1, pm_any_tb h3.1.2, pm_any_tb h3.2⟩
def pm_rck (m : Nat) : Bool := match pm_ret m with
  | 0 => decide (pm_rt0 m = none)
  | 1 => decide (pm_rt0 m = some .int)
  | 2 => decide (pm_rt0 m = some .boolean)
  | 3 => decide (pm_rt0 m = some .long)
  | 4 => (match pm_rt0 m with | some (.object _) => true | _ => false)
  | 5 => decide (pm_rt0 m = some .char)
  | 6 => decide (pm_rt0 m = some .byte)
  | _ => false
theorem rck_all : (List.range 277).all pm_rck = true := by decide +kernel
theorem tf_ret (m : Nat) : (pm_ret m = 0 → pm_rt0 m = none) ∧ (pm_ret m = 1 → pm_rt0 m = some .int) ∧ (pm_ret m = 2 → pm_rt0 m = some .boolean) ∧ (pm_ret m = 3 → pm_rt0 m = some .long) ∧ (pm_ret m = 4 → ∃ n, pm_rt0 m = some (.object n)) ∧ (pm_ret m = 5 → pm_rt0 m = some .char) ∧ (pm_ret m = 6 → pm_rt0 m = some .byte) := by
  by_cases hm : m < 277
  · have h := List.all_eq_true.mp rck_all m (List.mem_range.mpr hm)
    unfold pm_rck at h
    refine ⟨fun z => ?_, fun z => ?_, fun z => ?_, fun z => ?_, fun z => ?_, fun z => ?_, fun z => ?_⟩ <;> rw [z] at h
    · exact of_decide_eq_true h
    · exact of_decide_eq_true h
    · exact of_decide_eq_true h
    · exact of_decide_eq_true h
    · have h : (match pm_rt0 m with | some (.object _) => true | _ => false) = true := h
      split at h
      · exact ⟨_, by assumption⟩
      · cases h
    · exact of_decide_eq_true h
    · exact of_decide_eq_true h
  · have e1 : pm_ret m = 0 := by
      have h0 : Nat.blt m 277 = false := by
        cases h : Nat.blt m 277 with
        | false => rfl
        | true => exact absurd (Nat.le_of_ble_eq_true h) (by omega)
      unfold pm_ret pm_M
      rw [h0]
      rfl
    have e2 : pm_rt0 m = none := by
      unfold pm_rt0
      rw [List.getD_eq_getElem?_getD, List.getElem?_eq_none_iff.mpr (by rw [show pm_Y.length = 277 by decide +kernel]; exact Nat.not_lt.mp hm)]
      rfl
    rw [e1]
    exact ⟨fun _ => e2, (fun z => by cases z), (fun z => by cases z), (fun z => by cases z), (fun z => by cases z), (fun z => by cases z), (fun z => by cases z)⟩
theorem obs_nd : pm_obs.Nodup := by decide +kernel
theorem tf_nod : ∀ i j : Nat, ∀ q : Nat × Nat, pm_obs[i]? = some q → pm_obs[j]? = some q → i = j := by
  intro i j q hi hj
  obtain ⟨hi1, hi2⟩ := List.getElem?_eq_some_iff.mp hi
  obtain ⟨hj1, hj2⟩ := List.getElem?_eq_some_iff.mp hj
  have hp := List.pairwise_iff_getElem.mp obs_nd
  rcases Nat.lt_trichotomy i j with h | h | h
  · exact absurd (hi2.trans hj2.symm) (hp i j hi1 hj1 h)
  · exact h
  · exact absurd (hj2.trans hi2.symm) (hp j i hj1 hi1 h)
theorem obs_tag : pm_obs.all (fun q => decide (q.1 < 9 ∨ (10 ≤ q.1 ∧ q.1 < 44))) = true := by decide +kernel
theorem tf_tag : ∀ q ∈ pm_obs, q.1 < 9 ∨ (10 ≤ q.1 ∧ q.1 < 44) := fun q hq => of_decide_eq_true (List.all_eq_true.mp obs_tag q hq)
def pm_oin (v : PV) : Bool := match v with
  | some (.inr (.inr (some q))) => decide (q ∈ pm_obs)
  | _ => false
theorem obs_rf : pm_obs.all (fun q => decide (9 ≤ q.1) || (List.range (pm_nf q.1)).all (fun k => decide (pm_fty q.1 k ≠ 3) || pm_oin (pm_rf q.1 k q.2))) = true := by decide +kernel
theorem tf_rf : ∀ q ∈ pm_obs, q.1 < 9 → ∀ k, k < pm_nf q.1 → pm_fty q.1 k = 3 → pm_okv (pm_rf q.1 k q.2) := by
  intro q hq h9 k hk hf
  have h := List.all_eq_true.mp obs_rf q hq
  rw [Bool.or_eq_true] at h
  have h := h.resolve_left (by simp; omega)
  have h := List.all_eq_true.mp h k (List.mem_range.mpr hk)
  rw [Bool.or_eq_true] at h
  have h := h.resolve_left (by simp [hf])
  unfold pm_oin at h
  split at h
  · rename_i e
    rw [e]
    exact Or.inl (of_decide_eq_true h)
  · cases h
theorem obs_ar : pm_obs.all (fun q => decide (q.1 < 10) || decide (pm_ak q.1 ≠ 3) || (List.range (pm_nth pm_at (q.1 - 10) (9, 0)).2).all (fun j => pm_oin (pm_aref q.1 q.2 j))) = true := by decide +kernel
theorem tf_ar : ∀ q ∈ pm_obs, 10 ≤ q.1 → pm_ak q.1 = 3 → ∀ j, j < (pm_nth pm_at (q.1 - 10) (9, 0)).2 → ∃ i, pm_aref q.1 q.2 j = vr (pm_nth pm_ra (q.1 - 10) (0, 0, 0)).1 i ∧ ((pm_nth pm_ra (q.1 - 10) (0, 0, 0)).1, i) ∈ pm_obs := by
  intro q hq h10 h3 j hj
  have h := List.all_eq_true.mp obs_ar q hq
  rw [Bool.or_eq_true, Bool.or_eq_true] at h
  have h := h.resolve_left (by simp; omega)
  have h := List.all_eq_true.mp h j (List.mem_range.mpr hj)
  have e : pm_aref q.1 q.2 j = vr (pm_nth pm_ra (q.1 - 10) (0, 0, 0)).1 (j + ((pm_nth pm_ra (q.1 - 10) (0, 0, 0)).2.1 * q.2 + (pm_nth pm_ra (q.1 - 10) (0, 0, 0)).2.2)) := by
    unfold pm_aref
    rfl
  refine ⟨_, e, ?_⟩
  rw [e] at h
  exact of_decide_eq_true h
theorem rt_lt : pm_rt.all (fun l => l.all (fun x => decide (x.1 < 60))) = true := by decide +kernel
theorem tf_r67 : ∀ t k i : Nat, ∃ tt ii, pm_rf t k i = vr tt ii ∧ tt ≠ 67 := by
  intro t k i
  have hlt : (pm_nth (pm_nth pm_rt t []) k (0, 0, 0)).1 < 60 := by
    rw [pm_nth_eq, pm_nth_eq]
    rw [List.getD_eq_getElem?_getD (l := pm_rt.getD t [])]
    cases e : (pm_rt.getD t [])[k]? with
    | none => decide
    | some x =>
      have hx := List.mem_of_getElem? e
      rw [List.getD_eq_getElem?_getD] at hx
      cases e2 : pm_rt[t]? with
      | none => rw [e2] at hx; cases hx
      | some l =>
        rw [e2] at hx
        exact of_decide_eq_true (List.all_eq_true.mp (List.all_eq_true.mp rt_lt l (List.mem_of_getElem? e2)) x hx)
  unfold pm_rf
  split
  · rename_i t' b e
    rw [e] at hlt
    exact ⟨_, _, rfl, by simp only at hlt; omega⟩
  · rename_i t' a b h0 e
    rw [e] at hlt
    exact ⟨_, _, rfl, by simp only at hlt; omega⟩

theorem uws_0 : (List.range 16).all (fun k => pm_is (([198, 200, 202, 204, 206, 208, 210, 212, 214, 216, 218, 220, 222, 224, 226, 228] : List Nat).getD k 0) (u_lay RX0 TX0 k)) = true := by decide +kernel
theorem uws_1 : (List.range 6).all (fun k => pm_is (([385, 387, 389, 391, 393, 395] : List Nat).getD k 0) (u_lay RX1 TX1 k)) = true := by decide +kernel
theorem uws_2 : (List.range 7).all (fun k => pm_is (([268, 270, 272, 274, 276, 278, 280] : List Nat).getD k 0) (u_lay RX2 TX2 k)) = true := by decide +kernel
theorem uws_3 : (List.range 3).all (fun k => pm_is (([245, 247, 249] : List Nat).getD k 0) (u_lay RX3 TX3 k)) = true := by decide +kernel
theorem uws_4 : (List.range 12).all (fun k => pm_is (([345, 347, 349, 351, 353, 355, 357, 359, 361, 363, 365, 367] : List Nat).getD k 0) (u_lay RX4 TX4 k)) = true := by decide +kernel
theorem uws_5 : (List.range 7).all (fun k => pm_is (([413, 415, 417, 419, 421, 423, 425] : List Nat).getD k 0) (u_lay RX6 TX6 k)) = true := by decide +kernel
theorem uws_6 : (List.range 8).all (fun k => pm_is (([298, 300, 302, 304, 306, 308, 310, 312] : List Nat).getD k 0) (u_lay RX7 TX7 k)) = true := by decide +kernel
theorem uws_7 : (List.range 7).all (fun k => pm_is (([436, 438, 440, 442, 444, 446, 448] : List Nat).getD k 0) (u_lay RX8 TX8 k)) = true := by decide +kernel
theorem uws_8 : (List.range 37).all (fun k => pm_is (([1232, 1234, 1236, 1238, 1240, 1242, 1244, 1246, 1248, 1250, 1252, 1254, 1256, 1258, 1260, 1262, 1264, 1266, 1268, 1270, 1272, 1274, 1276, 1278, 1280, 1282, 1284, 1286, 1288, 1290, 1292, 1294, 1296, 1298, 1300, 1302, 1304] : List Nat).getD k 0) (u_lay RX9 TX9 k)) = true := by decide +kernel
theorem tf_cls {ci : Nat} {C : String} {T : u_T} {N : Nat} (h : vwCl[ci]? = some (C, T, N)) : (∀ w ∈ u_ws C T N, w ∈ pm_tb) ∧ (∃ ty : Nat → FieldType, ∀ k, k < N → parseFieldDescriptor (T k).2.2.1 = some (ty k)) ∧ (∀ a, a < N → ∀ b, b < N → a ≠ b → (T a).2.1 ≠ (T b).2.1) := by
  match ci, h with
  | 0, h =>
    cases h
    exact ⟨fun w hw => by
      obtain ⟨k, hk, e⟩ := List.mem_map.mp hw
      rw [← e]
      exact pm_is_tb (List.all_eq_true.mp uws_0 k hk), ⟨tyX0, tyX0_ok⟩, nmX0⟩
  | 1, h =>
    cases h
    exact ⟨fun w hw => by
      obtain ⟨k, hk, e⟩ := List.mem_map.mp hw
      rw [← e]
      exact pm_is_tb (List.all_eq_true.mp uws_1 k hk), ⟨tyX1, tyX1_ok⟩, nmX1⟩
  | 2, h =>
    cases h
    exact ⟨fun w hw => by
      obtain ⟨k, hk, e⟩ := List.mem_map.mp hw
      rw [← e]
      exact pm_is_tb (List.all_eq_true.mp uws_2 k hk), ⟨tyX2, tyX2_ok⟩, nmX2⟩
  | 3, h =>
    cases h
    exact ⟨fun w hw => by
      obtain ⟨k, hk, e⟩ := List.mem_map.mp hw
      rw [← e]
      exact pm_is_tb (List.all_eq_true.mp uws_3 k hk), ⟨tyX3, tyX3_ok⟩, nmX3⟩
  | 4, h =>
    cases h
    exact ⟨fun w hw => by
      obtain ⟨k, hk, e⟩ := List.mem_map.mp hw
      rw [← e]
      exact pm_is_tb (List.all_eq_true.mp uws_4 k hk), ⟨tyX4, tyX4_ok⟩, nmX4⟩
  | 5, h =>
    cases h
    exact ⟨fun w hw => by
      obtain ⟨k, hk, e⟩ := List.mem_map.mp hw
      rw [← e]
      exact pm_is_tb (List.all_eq_true.mp uws_5 k hk), ⟨tyX6, tyX6_ok⟩, nmX6⟩
  | 6, h =>
    cases h
    exact ⟨fun w hw => by
      obtain ⟨k, hk, e⟩ := List.mem_map.mp hw
      rw [← e]
      exact pm_is_tb (List.all_eq_true.mp uws_6 k hk), ⟨tyX7, tyX7_ok⟩, nmX7⟩
  | 7, h =>
    cases h
    exact ⟨fun w hw => by
      obtain ⟨k, hk, e⟩ := List.mem_map.mp hw
      rw [← e]
      exact pm_is_tb (List.all_eq_true.mp uws_7 k hk), ⟨tyX8, tyX8_ok⟩, nmX8⟩
  | 8, h =>
    cases h
    exact ⟨fun w hw => by
      obtain ⟨k, hk, e⟩ := List.mem_map.mp hw
      rw [← e]
      exact pm_is_tb (List.all_eq_true.mp uws_8 k hk), ⟨tyX9, tyX9_ok⟩, nmX9⟩
  | n + 9, h => exact absurd h (by simp)
end
section
/-! every instruction of the tables, decoded -/
def pm_dk (b : ByteArray) (x : Nat) (q : Nat × Instr × Nat × Option (List Bool)) : Bool := decide (decode b q.1 = .ok (q.2.1, q.2.2.1)) && (pm_il q.2.1 == 0 || q.2.2.1 == pm_il q.2.1) && pm_tok q.1 q.2.1 && (match q.2.2.2 with
  | none => true
  | some bs => bs.length == x)
theorem all_chunk {α : Type} {l : List α} {p : α → Bool} (a : Nat) (h1 : ((l.drop a).take 100).all p = true) (h2 : (l.drop (a + 100)).all p = true) : (l.drop a).all p = true := by
  rw [← List.take_append_drop 100 (l.drop a), List.all_append, h1, List.drop_drop, h2]
  rfl
theorem dk_0 : cd_0.all (pm_dk prog_2_method_2_code 1) = true := by decide +kernel
theorem dk_1 : cd_1.all (pm_dk prog_2_method_3_code 2) = true := by decide +kernel
theorem dk_2 : cd_2.all (pm_dk prog_2_method_4_code 3) = true := by decide +kernel
theorem dk_3 : cd_3.all (pm_dk prog_2_method_5_code 4) = true := by decide +kernel
theorem dk_4 : cd_4.all (pm_dk prog_2_method_6_code 6) = true := by decide +kernel
theorem dk_5 : cd_5.all (pm_dk prog_2_method_7_code 2) = true := by decide +kernel
theorem dk_6 : cd_6.all (pm_dk prog_2_method_8_code 3) = true := by decide +kernel
theorem dk_7 : cd_7.all (pm_dk prog_2_method_9_code 1) = true := by decide +kernel
theorem dk_8 : cd_8.all (pm_dk prog_2_method_10_code 2) = true := by decide +kernel
theorem dk_9 : cd_9.all (pm_dk prog_2_method_11_code 2) = true := by decide +kernel
theorem dk_10 : cd_10.all (pm_dk prog_2_method_12_code 6) = true := by decide +kernel
theorem dk_11 : cd_11.all (pm_dk prog_2_method_13_code 6) = true := by decide +kernel
theorem dk_12 : cd_12.all (pm_dk prog_2_method_14_code 2) = true := by decide +kernel
theorem dk_13 : cd_13.all (pm_dk prog_2_method_15_code 3) = true := by decide +kernel
theorem dk_14 : cd_14.all (pm_dk prog_2_method_16_code 3) = true := by decide +kernel
theorem dk_15 : cd_15.all (pm_dk prog_2_method_17_code 6) = true := by decide +kernel
theorem dk_16 : cd_16.all (pm_dk prog_2_method_18_code 5) = true := by decide +kernel
theorem dk_17 : cd_17.all (pm_dk prog_2_method_19_code 4) = true := by decide +kernel
theorem dk_18 : cd_18.all (pm_dk prog_2_method_20_code 2) = true := by decide +kernel
theorem dk_19 : cd_19.all (pm_dk prog_2_method_21_code 5) = true := by decide +kernel
theorem dk_20 : cd_20.all (pm_dk prog_2_method_22_code 4) = true := by decide +kernel
theorem dk_21 : cd_21.all (pm_dk prog_2_method_23_code 4) = true := by decide +kernel
theorem dk_22 : cd_22.all (pm_dk prog_2_method_24_code 5) = true := by decide +kernel
theorem dk_23 : cd_23.all (pm_dk prog_2_method_25_code 5) = true := by decide +kernel
theorem dk_24 : cd_24.all (pm_dk prog_2_method_26_code 4) = true := by decide +kernel
theorem dk_25 : cd_25.all (pm_dk prog_2_method_27_code 2) = true := by decide +kernel
theorem dk_26 : cd_26.all (pm_dk prog_2_method_28_code 2) = true := by decide +kernel
theorem dk_27 : cd_27.all (pm_dk prog_2_method_29_code 4) = true := by decide +kernel
theorem dk_28 : cd_28.all (pm_dk prog_2_method_30_code 4) = true := by decide +kernel
theorem dk_29 : cd_29.all (pm_dk prog_3_method_2_code 2) = true := by decide +kernel
theorem dk_30 : cd_30.all (pm_dk prog_3_method_3_code 8) = true := by decide +kernel
theorem dk_31 : cd_31.all (pm_dk prog_3_method_4_code 9) = true := by decide +kernel
theorem dk_32 : cd_32.all (pm_dk prog_3_method_5_code 2) = true := by decide +kernel
theorem dk_33 : cd_33.all (pm_dk prog_3_method_6_code 5) = true := by decide +kernel
theorem dk_34 : cd_34.all (pm_dk prog_3_method_7_code 2) = true := by decide +kernel
theorem dk_35 : cd_35.all (pm_dk prog_3_method_8_code 5) = true := by decide +kernel
theorem dk_36 : cd_36.all (pm_dk prog_3_method_9_code 2) = true := by decide +kernel
theorem dk_37 : cd_37.all (pm_dk prog_3_method_10_code 8) = true := by decide +kernel
theorem dk_38 : cd_38.all (pm_dk prog_3_method_11_code 3) = true := by decide +kernel
theorem dk_39 : cd_39.all (pm_dk prog_3_method_12_code 5) = true := by decide +kernel
theorem dk_40 : cd_40.all (pm_dk prog_3_method_13_code 2) = true := by decide +kernel
theorem dk_41 : cd_41.all (pm_dk prog_3_method_14_code 3) = true := by decide +kernel
theorem dk_42 : cd_42.all (pm_dk prog_3_method_15_code 3) = true := by decide +kernel
theorem dk_43 : cd_43.all (pm_dk prog_4_method_2_code 1) = true := by decide +kernel
theorem dk_44 : cd_44.all (pm_dk prog_4_method_3_code 2) = true := by decide +kernel
theorem dk_45 : cd_45.all (pm_dk prog_4_method_4_code 2) = true := by decide +kernel
theorem dk_46 : cd_46.all (pm_dk prog_4_method_5_code 3) = true := by decide +kernel
theorem dk_47 : cd_47.all (pm_dk prog_4_method_6_code 2) = true := by decide +kernel
theorem dk_48 : cd_48.all (pm_dk prog_4_method_7_code 2) = true := by decide +kernel
theorem dk_49 : cd_49.all (pm_dk prog_4_method_8_code 3) = true := by decide +kernel
theorem dk_50 : cd_50.all (pm_dk prog_4_method_9_code 1) = true := by decide +kernel
theorem dk_51 : cd_51.all (pm_dk prog_4_method_10_code 4) = true := by decide +kernel
theorem dk_52 : cd_52.all (pm_dk prog_4_method_11_code 3) = true := by decide +kernel
theorem dk_53 : cd_53.all (pm_dk prog_4_method_12_code 3) = true := by decide +kernel
theorem dk_54 : cd_54.all (pm_dk prog_4_method_13_code 4) = true := by decide +kernel
theorem dk_55 : cd_55.all (pm_dk prog_4_method_14_code 5) = true := by decide +kernel
theorem dk_56 : cd_56.all (pm_dk prog_4_method_15_code 6) = true := by decide +kernel
theorem dk_57 : cd_57.all (pm_dk prog_4_method_16_code 9) = true := by decide +kernel
theorem dk_58 : cd_58.all (pm_dk prog_4_method_17_code 5) = true := by decide +kernel
theorem dk_59 : cd_59.all (pm_dk prog_4_method_18_code 6) = true := by decide +kernel
theorem dk_60 : cd_60.all (pm_dk prog_4_method_19_code 5) = true := by decide +kernel
theorem dk_61 : cd_61.all (pm_dk prog_5_method_2_code 5) = true := by decide +kernel
theorem dk_62 : cd_62.all (pm_dk prog_5_method_3_code 2) = true := by decide +kernel
theorem dk_63 : cd_63.all (pm_dk prog_5_method_4_code 3) = true := by decide +kernel
theorem dk_64 : cd_64.all (pm_dk prog_6_method_2_code 5) = true := by decide +kernel
theorem dk_65 : cd_65.all (pm_dk prog_6_method_3_code 1) = true := by decide +kernel
theorem dk_66 : cd_66.all (pm_dk prog_6_method_4_code 3) = true := by decide +kernel
theorem dk_67 : cd_67.all (pm_dk prog_6_method_5_code 3) = true := by decide +kernel
theorem dk_68 : cd_68.all (pm_dk prog_6_method_6_code 1) = true := by decide +kernel
theorem dk_69 : cd_69.all (pm_dk prog_6_method_7_code 1) = true := by decide +kernel
theorem dk_70 : cd_70.all (pm_dk prog_6_method_8_code 6) = true := by decide +kernel
theorem dk_71 : cd_71.all (pm_dk prog_6_method_9_code 4) = true := by decide +kernel
theorem dk_72 : cd_72.all (pm_dk prog_6_method_10_code 4) = true := by decide +kernel
theorem dk_73 : cd_73.all (pm_dk prog_6_method_11_code 1) = true := by decide +kernel
theorem dk_74 : cd_74.all (pm_dk prog_6_method_12_code 4) = true := by decide +kernel
theorem dk_75 : cd_75.all (pm_dk prog_6_method_13_code 1) = true := by decide +kernel
theorem dk_76 : cd_76.all (pm_dk prog_6_method_14_code 1) = true := by decide +kernel
theorem dk_77 : cd_77.all (pm_dk prog_6_method_15_code 1) = true := by decide +kernel
theorem dk_78 : cd_78.all (pm_dk prog_6_method_16_code 4) = true := by decide +kernel
theorem dk_79 : cd_79.all (pm_dk prog_6_method_17_code 2) = true := by decide +kernel
theorem dk_80 : cd_80.all (pm_dk prog_6_method_18_code 2) = true := by decide +kernel
theorem dk_81 : cd_81.all (pm_dk prog_6_method_19_code 3) = true := by decide +kernel
theorem dk_82 : cd_82.all (pm_dk prog_6_method_20_code 2) = true := by decide +kernel
theorem dk_83 : cd_83.all (pm_dk prog_6_method_21_code 2) = true := by decide +kernel
theorem dk_84 : cd_84.all (pm_dk prog_7_method_2_code 4) = true := by decide +kernel
theorem dk_85 : cd_85.all (pm_dk prog_7_method_3_code 4) = true := by decide +kernel
theorem dk_86 : cd_86.all (pm_dk prog_7_method_4_code 4) = true := by decide +kernel
theorem dk_87 : cd_87.all (pm_dk prog_7_method_5_code 7) = true := by decide +kernel
theorem dk_88 : cd_88.all (pm_dk prog_7_method_6_code 4) = true := by decide +kernel
theorem dk_89 : cd_89.all (pm_dk prog_7_method_7_code 5) = true := by decide +kernel
theorem dk_90 : cd_90.all (pm_dk prog_7_method_8_code 4) = true := by decide +kernel
theorem dk_91 : cd_91.all (pm_dk prog_7_method_9_code 5) = true := by decide +kernel
theorem dk_92 : cd_92.all (pm_dk prog_8_method_2_code 6) = true := by decide +kernel
theorem dk_93 : cd_93.all (pm_dk prog_8_method_3_code 7) = true := by decide +kernel
theorem dk_94 : cd_94.all (pm_dk prog_8_method_4_code 4) = true := by decide +kernel
theorem dk_95 : cd_95.all (pm_dk prog_8_method_5_code 6) = true := by decide +kernel
theorem dk_96 : cd_96.all (pm_dk prog_8_method_6_code 7) = true := by decide +kernel
theorem dk_97 : cd_97.all (pm_dk prog_8_method_7_code 4) = true := by decide +kernel
theorem dk_98 : cd_98.all (pm_dk prog_8_method_8_code 8) = true := by decide +kernel
theorem dk_99 : cd_99.all (pm_dk prog_8_method_9_code 8) = true := by decide +kernel
theorem dk_100 : cd_100.all (pm_dk prog_8_method_10_code 4) = true := by decide +kernel
theorem dk_101 : cd_101.all (pm_dk prog_8_method_11_code 5) = true := by decide +kernel
theorem dk_102 : cd_102.all (pm_dk prog_8_method_12_code 6) = true := by decide +kernel
theorem dk_103 : cd_103.all (pm_dk prog_8_method_13_code 4) = true := by decide +kernel
theorem dk_104 : cd_104.all (pm_dk prog_9_method_2_code 2) = true := by decide +kernel
theorem dk_105 : cd_105.all (pm_dk prog_9_method_3_code 3) = true := by decide +kernel
theorem dk_106 : cd_106.all (pm_dk prog_9_method_4_code 4) = true := by decide +kernel
theorem dk_107 : cd_107.all (pm_dk prog_9_method_5_code 3) = true := by decide +kernel
theorem dk_108 : cd_108.all (pm_dk prog_1_method_2_code 6) = true := by decide +kernel
theorem dk_109 : cd_109.all (pm_dk prog_1_method_3_code 2) = true := by decide +kernel
theorem dk_110 : cd_110.all (pm_dk prog_1_method_4_code 7) = true := by decide +kernel
theorem dk_111 : cd_111.all (pm_dk prog_1_method_5_code 2) = true := by decide +kernel
theorem dk_112 : cd_112.all (pm_dk prog_1_method_6_code 4) = true := by decide +kernel
theorem dk_113 : cd_113.all (pm_dk prog_1_method_7_code 7) = true := by decide +kernel
theorem dk_114 : cd_114.all (pm_dk prog_1_method_8_code 5) = true := by decide +kernel
theorem dk_115 : cd_115.all (pm_dk prog_1_method_9_code 7) = true := by decide +kernel
theorem dk_116 : cd_116.all (pm_dk prog_1_method_10_code 5) = true := by decide +kernel
theorem dk_117 : cd_117.all (pm_dk prog_1_method_11_code 7) = true := by decide +kernel
theorem dk_118 : cd_118.all (pm_dk prog_1_method_12_code 5) = true := by decide +kernel
theorem dk_119 : cd_119.all (pm_dk prog_1_method_13_code 6) = true := by decide +kernel
theorem dk_120 : cd_120.all (pm_dk prog_1_method_14_code 7) = true := by decide +kernel
theorem dk_121 : cd_121.all (pm_dk prog_1_method_15_code 5) = true := by decide +kernel
theorem dk_122 : cd_122.all (pm_dk prog_1_method_16_code 10) = true := by decide +kernel
theorem dk_123 : cd_123.all (pm_dk prog_1_method_17_code 4) = true := by decide +kernel
theorem dk_124 : cd_124.all (pm_dk prog_1_method_18_code 6) = true := by decide +kernel
theorem dk_125 : cd_125.all (pm_dk prog_1_method_19_code 5) = true := by decide +kernel
theorem dk_126 : cd_126.all (pm_dk prog_1_method_20_code 6) = true := by decide +kernel
theorem dk_127 : cd_127.all (pm_dk prog_1_method_21_code 5) = true := by decide +kernel
theorem dk_128 : cd_128.all (pm_dk prog_1_method_22_code 4) = true := by decide +kernel
theorem dk_129 : cd_129.all (pm_dk prog_1_method_23_code 6) = true := by decide +kernel
theorem dk_130 : cd_130.all (pm_dk prog_1_method_24_code 5) = true := by decide +kernel
theorem dk_131 : cd_131.all (pm_dk prog_1_method_25_code 6) = true := by decide +kernel
theorem dk_132 : cd_132.all (pm_dk prog_1_method_26_code 6) = true := by decide +kernel
theorem dk_133 : cd_133.all (pm_dk prog_1_method_27_code 5) = true := by decide +kernel
theorem dk_134 : cd_134.all (pm_dk prog_1_method_28_code 6) = true := by decide +kernel
theorem dk_135 : cd_135.all (pm_dk prog_1_method_29_code 2) = true := by decide +kernel
theorem dk_136 : cd_136.all (pm_dk prog_1_method_30_code 2) = true := by decide +kernel
theorem dk_137 : cd_137.all (pm_dk prog_1_method_31_code 2) = true := by decide +kernel
theorem dk_138 : cd_138.all (pm_dk prog_1_method_32_code 2) = true := by decide +kernel
theorem dk_139 : cd_139.all (pm_dk prog_1_method_33_code 2) = true := by decide +kernel
theorem dk_140 : cd_140.all (pm_dk prog_1_method_34_code 2) = true := by decide +kernel
theorem dk_141 : cd_141.all (pm_dk prog_1_method_35_code 1) = true := by decide +kernel
theorem dk_142 : cd_142.all (pm_dk prog_1_method_36_code 1) = true := by decide +kernel
theorem dk_143 : cd_143.all (pm_dk prog_1_method_37_code 1) = true := by decide +kernel
theorem dk_144 : cd_144.all (pm_dk prog_1_method_38_code 3) = true := by decide +kernel
theorem dk_145 : cd_145.all (pm_dk prog_1_method_39_code 9) = true := by decide +kernel
theorem dk_146 : cd_146.all (pm_dk prog_1_method_40_code 5) = true := by decide +kernel
theorem dk_147 : cd_147.all (pm_dk prog_1_method_41_code 5) = true := by decide +kernel
theorem dk_148 : cd_148.all (pm_dk prog_1_method_42_code 7) = true := by decide +kernel
theorem dk_149 : cd_149.all (pm_dk prog_1_method_43_code 2) = true := by decide +kernel
theorem dk_150 : cd_150.all (pm_dk prog_1_method_44_code 4) = true := by decide +kernel
theorem dk_151 : cd_151.all (pm_dk prog_1_method_45_code 7) = true := by decide +kernel
theorem dk_152 : cd_152.all (pm_dk prog_1_method_46_code 7) = true := by decide +kernel
theorem dk_153 : cd_153.all (pm_dk prog_11_method_2_code 3) = true := by decide +kernel
theorem dk_154 : cd_154.all (pm_dk prog_11_method_3_code 8) = true := by decide +kernel
theorem dk_155 : cd_155.all (pm_dk prog_11_method_4_code 2) = true := by decide +kernel
theorem dk_156 : cd_156.all (pm_dk prog_11_method_5_code 2) = true := by decide +kernel
theorem dk_157 : cd_157.all (pm_dk prog_11_method_6_code 1) = true := by decide +kernel
theorem dk_158 : cd_158.all (pm_dk prog_11_method_7_code 1) = true := by decide +kernel
theorem dk_159 : cd_159.all (pm_dk prog_11_method_8_code 4) = true := by decide +kernel
theorem dk_160 : cd_160.all (pm_dk prog_11_method_9_code 8) = true := by decide +kernel
theorem dk_161_0 : ((cd_161.drop 0).take 100).all (pm_dk prog_11_method_10_code 2) = true := by decide +kernel
theorem dk_161_100 : ((cd_161.drop 100).take 100).all (pm_dk prog_11_method_10_code 2) = true := by decide +kernel
theorem dk_161_200 : (cd_161.drop 200).all (pm_dk prog_11_method_10_code 2) = true := by decide +kernel
theorem dk_161 : cd_161.all (pm_dk prog_11_method_10_code 2) = true := (all_chunk 0 dk_161_0 (all_chunk 100 dk_161_100 dk_161_200))
theorem dk_162_0 : ((cd_162.drop 0).take 100).all (pm_dk prog_11_method_11_code 4) = true := by decide +kernel
theorem dk_162_100 : (cd_162.drop 100).all (pm_dk prog_11_method_11_code 4) = true := by decide +kernel
theorem dk_162 : cd_162.all (pm_dk prog_11_method_11_code 4) = true := (all_chunk 0 dk_162_0 dk_162_100)
theorem dk_163 : cd_163.all (pm_dk prog_11_method_12_code 1) = true := by decide +kernel
theorem dk_164 : cd_164.all (pm_dk prog_11_method_13_code 3) = true := by decide +kernel
theorem dk_165 : cd_165.all (pm_dk prog_11_method_14_code 4) = true := by decide +kernel
theorem dk_166 : cd_166.all (pm_dk prog_11_method_15_code 4) = true := by decide +kernel
theorem dk_167 : cd_167.all (pm_dk prog_11_method_16_code 1) = true := by decide +kernel
theorem dk_168 : cd_168.all (pm_dk prog_11_method_17_code 3) = true := by decide +kernel
theorem dk_169 : cd_169.all (pm_dk prog_11_method_18_code 5) = true := by decide +kernel
theorem dk_170 : cd_170.all (pm_dk prog_11_method_19_code 7) = true := by decide +kernel
theorem dk_171 : cd_171.all (pm_dk prog_11_method_20_code 2) = true := by decide +kernel
theorem dk_172_0 : ((cd_172.drop 0).take 100).all (pm_dk prog_11_method_21_code 8) = true := by decide +kernel
theorem dk_172_100 : (cd_172.drop 100).all (pm_dk prog_11_method_21_code 8) = true := by decide +kernel
theorem dk_172 : cd_172.all (pm_dk prog_11_method_21_code 8) = true := (all_chunk 0 dk_172_0 dk_172_100)
theorem dk_173 : cd_173.all (pm_dk prog_11_method_22_code 3) = true := by decide +kernel
theorem dk_174 : cd_174.all (pm_dk prog_11_method_23_code 7) = true := by decide +kernel
theorem dk_175 : cd_175.all (pm_dk prog_11_method_24_code 3) = true := by decide +kernel
theorem dk_176 : cd_176.all (pm_dk prog_11_method_25_code 4) = true := by decide +kernel
theorem dk_177 : cd_177.all (pm_dk prog_11_method_26_code 3) = true := by decide +kernel
theorem dk_178 : cd_178.all (pm_dk prog_11_method_27_code 2) = true := by decide +kernel
theorem dk_179 : cd_179.all (pm_dk prog_11_method_28_code 1) = true := by decide +kernel
theorem dk_180 : cd_180.all (pm_dk prog_11_method_29_code 3) = true := by decide +kernel
theorem dk_181_0 : ((cd_181.drop 0).take 100).all (pm_dk prog_11_method_30_code 5) = true := by decide +kernel
theorem dk_181_100 : ((cd_181.drop 100).take 100).all (pm_dk prog_11_method_30_code 5) = true := by decide +kernel
theorem dk_181_200 : (cd_181.drop 200).all (pm_dk prog_11_method_30_code 5) = true := by decide +kernel
theorem dk_181 : cd_181.all (pm_dk prog_11_method_30_code 5) = true := (all_chunk 0 dk_181_0 (all_chunk 100 dk_181_100 dk_181_200))
theorem dk_182 : cd_182.all (pm_dk prog_11_method_31_code 3) = true := by decide +kernel
theorem dk_183_0 : ((cd_183.drop 0).take 100).all (pm_dk prog_11_method_32_code 4) = true := by decide +kernel
theorem dk_183_100 : (cd_183.drop 100).all (pm_dk prog_11_method_32_code 4) = true := by decide +kernel
theorem dk_183 : cd_183.all (pm_dk prog_11_method_32_code 4) = true := (all_chunk 0 dk_183_0 dk_183_100)
theorem dk_184 : cd_184.all (pm_dk prog_11_method_33_code 2) = true := by decide +kernel
theorem dk_185 : cd_185.all (pm_dk prog_11_method_34_code 2) = true := by decide +kernel
theorem dk_186 : cd_186.all (pm_dk prog_11_method_35_code 2) = true := by decide +kernel
theorem dk_187 : cd_187.all (pm_dk prog_11_method_36_code 2) = true := by decide +kernel
theorem dk_188 : cd_188.all (pm_dk prog_11_method_37_code 3) = true := by decide +kernel
theorem dk_189 : cd_189.all (pm_dk prog_11_method_38_code 4) = true := by decide +kernel
theorem dk_190 : cd_190.all (pm_dk prog_11_method_39_code 5) = true := by decide +kernel
theorem dk_191 : cd_191.all (pm_dk prog_11_method_40_code 2) = true := by decide +kernel
theorem dk_192 : cd_192.all (pm_dk prog_11_method_41_code 4) = true := by decide +kernel
theorem dk_193 : cd_193.all (pm_dk prog_11_method_42_code 5) = true := by decide +kernel
theorem dk_194 : cd_194.all (pm_dk prog_11_method_43_code 5) = true := by decide +kernel
theorem dk_195 : cd_195.all (pm_dk prog_11_method_44_code 5) = true := by decide +kernel
theorem dk_196 : cd_196.all (pm_dk prog_11_method_45_code 4) = true := by decide +kernel
theorem dk_197 : cd_197.all (pm_dk prog_11_method_46_code 5) = true := by decide +kernel
theorem dk_198 : cd_198.all (pm_dk prog_11_method_47_code 2) = true := by decide +kernel
theorem dk_199 : cd_199.all (pm_dk prog_11_method_48_code 4) = true := by decide +kernel
theorem dk_200 : cd_200.all (pm_dk prog_11_method_49_code 2) = true := by decide +kernel
theorem dk_201 : cd_201.all (pm_dk prog_11_method_50_code 2) = true := by decide +kernel
theorem dk_202 : cd_202.all (pm_dk prog_11_method_51_code 5) = true := by decide +kernel
theorem dk_203 : cd_203.all (pm_dk prog_11_method_52_code 2) = true := by decide +kernel
theorem dk_204 : cd_204.all (pm_dk prog_11_method_53_code 3) = true := by decide +kernel
theorem dk_205 : cd_205.all (pm_dk prog_11_method_54_code 1) = true := by decide +kernel
theorem dk_206 : cd_206.all (pm_dk prog_11_method_55_code 8) = true := by decide +kernel
theorem dk_207 : cd_207.all (pm_dk prog_11_method_56_code 4) = true := by decide +kernel
theorem dk_208 : cd_208.all (pm_dk prog_11_method_57_code 3) = true := by decide +kernel
theorem dk_209 : cd_209.all (pm_dk prog_11_method_58_code 3) = true := by decide +kernel
theorem dk_210 : cd_210.all (pm_dk prog_11_method_59_code 4) = true := by decide +kernel
theorem dk_211 : cd_211.all (pm_dk prog_11_method_60_code 2) = true := by decide +kernel
theorem dk_212 : cd_212.all (pm_dk prog_11_method_61_code 5) = true := by decide +kernel
theorem dk_213 : cd_213.all (pm_dk prog_11_method_62_code 6) = true := by decide +kernel
theorem dk_214 : cd_214.all (pm_dk prog_11_method_63_code 2) = true := by decide +kernel
theorem dk_215 : cd_215.all (pm_dk prog_11_method_64_code 3) = true := by decide +kernel
theorem dk_216 : cd_216.all (pm_dk prog_11_method_65_code 4) = true := by decide +kernel
theorem dk_217 : cd_217.all (pm_dk prog_11_method_66_code 5) = true := by decide +kernel
theorem dk_218 : cd_218.all (pm_dk prog_11_method_67_code 6) = true := by decide +kernel
theorem dk_219_0 : ((cd_219.drop 0).take 100).all (pm_dk prog_11_method_68_code 8) = true := by decide +kernel
theorem dk_219_100 : (cd_219.drop 100).all (pm_dk prog_11_method_68_code 8) = true := by decide +kernel
theorem dk_219 : cd_219.all (pm_dk prog_11_method_68_code 8) = true := (all_chunk 0 dk_219_0 dk_219_100)
theorem dk_220 : cd_220.all (pm_dk prog_11_method_69_code 4) = true := by decide +kernel
theorem dk_221 : cd_221.all (pm_dk prog_11_method_70_code 7) = true := by decide +kernel
theorem dk_222 : cd_222.all (pm_dk prog_11_method_71_code 5) = true := by decide +kernel
theorem dk_223 : cd_223.all (pm_dk prog_11_method_72_code 3) = true := by decide +kernel
theorem dk_224 : cd_224.all (pm_dk prog_11_method_73_code 6) = true := by decide +kernel
theorem dk_225 : cd_225.all (pm_dk prog_11_method_74_code 7) = true := by decide +kernel
theorem dk_226 : cd_226.all (pm_dk prog_11_method_75_code 5) = true := by decide +kernel
theorem dk_227 : cd_227.all (pm_dk prog_11_method_76_code 6) = true := by decide +kernel
theorem dk_228 : cd_228.all (pm_dk prog_11_method_77_code 5) = true := by decide +kernel
theorem dk_229 : cd_229.all (pm_dk prog_11_method_78_code 6) = true := by decide +kernel
theorem dk_230 : cd_230.all (pm_dk prog_11_method_79_code 4) = true := by decide +kernel
theorem dk_231 : cd_231.all (pm_dk prog_11_method_80_code 4) = true := by decide +kernel
theorem dk_232 : cd_232.all (pm_dk prog_11_method_81_code 8) = true := by decide +kernel
theorem dk_233 : cd_233.all (pm_dk prog_11_method_82_code 7) = true := by decide +kernel
theorem dk_234 : cd_234.all (pm_dk prog_11_method_83_code 6) = true := by decide +kernel
theorem dk_235 : cd_235.all (pm_dk prog_11_method_84_code 10) = true := by decide +kernel
theorem dk_236 : cd_236.all (pm_dk prog_11_method_85_code 6) = true := by decide +kernel
theorem dk_237 : cd_237.all (pm_dk prog_11_method_86_code 9) = true := by decide +kernel
theorem dk_238 : cd_238.all (pm_dk prog_11_method_87_code 2) = true := by decide +kernel
theorem dk_239 : cd_239.all (pm_dk prog_11_method_88_code 4) = true := by decide +kernel
theorem dk_240 : cd_240.all (pm_dk prog_11_method_89_code 3) = true := by decide +kernel
theorem dk_241 : cd_241.all (pm_dk prog_11_method_90_code 4) = true := by decide +kernel
theorem dk_242 : cd_242.all (pm_dk prog_11_method_91_code 4) = true := by decide +kernel
theorem dk_243 : cd_243.all (pm_dk prog_11_method_92_code 6) = true := by decide +kernel
theorem dk_244 : cd_244.all (pm_dk prog_11_method_93_code 5) = true := by decide +kernel
theorem dk_245 : cd_245.all (pm_dk prog_11_method_94_code 5) = true := by decide +kernel
theorem dk_246 : cd_246.all (pm_dk prog_11_method_95_code 11) = true := by decide +kernel
theorem dk_247 : cd_247.all (pm_dk prog_11_method_96_code 5) = true := by decide +kernel
theorem dk_248 : cd_248.all (pm_dk prog_11_method_97_code 9) = true := by decide +kernel
theorem dk_249 : cd_249.all (pm_dk prog_11_method_98_code 6) = true := by decide +kernel
theorem dk_250 : cd_250.all (pm_dk prog_11_method_99_code 7) = true := by decide +kernel
theorem dk_251_0 : ((cd_251.drop 0).take 100).all (pm_dk prog_11_method_100_code 7) = true := by decide +kernel
theorem dk_251_100 : (cd_251.drop 100).all (pm_dk prog_11_method_100_code 7) = true := by decide +kernel
theorem dk_251 : cd_251.all (pm_dk prog_11_method_100_code 7) = true := (all_chunk 0 dk_251_0 dk_251_100)
theorem dk_252 : cd_252.all (pm_dk prog_11_method_101_code 6) = true := by decide +kernel
theorem dk_253 : cd_253.all (pm_dk prog_11_method_102_code 6) = true := by decide +kernel
theorem dk_254 : cd_254.all (pm_dk prog_11_method_103_code 7) = true := by decide +kernel
theorem dk_255 : cd_255.all (pm_dk prog_11_method_104_code 10) = true := by decide +kernel
theorem dk_256 : cd_256.all (pm_dk prog_11_method_105_code 8) = true := by decide +kernel
theorem dk_257 : cd_257.all (pm_dk prog_11_method_106_code 2) = true := by decide +kernel
theorem dk_258 : cd_258.all (pm_dk prog_11_method_107_code 4) = true := by decide +kernel
theorem dk_259 : cd_259.all (pm_dk prog_11_method_108_code 5) = true := by decide +kernel
theorem dk_260 : cd_260.all (pm_dk prog_11_method_109_code 6) = true := by decide +kernel
theorem dk_261 : cd_261.all (pm_dk prog_11_method_110_code 2) = true := by decide +kernel
theorem dk_262 : cd_262.all (pm_dk prog_11_method_111_code 4) = true := by decide +kernel
theorem dk_263 : cd_263.all (pm_dk prog_11_method_112_code 6) = true := by decide +kernel
theorem dk_264 : cd_264.all (pm_dk prog_11_method_113_code 2) = true := by decide +kernel
theorem dk_265 : cd_265.all (pm_dk prog_11_method_114_code 3) = true := by decide +kernel
theorem dk_266 : cd_266.all (pm_dk prog_11_method_115_code 3) = true := by decide +kernel
theorem dk_267 : cd_267.all (pm_dk prog_12_method_49_code 1) = true := by decide +kernel
theorem dk_268 : cd_268.all (pm_dk prog_13_method_50_code 2) = true := by decide +kernel
theorem dk_269 : cd_269.all (pm_dk prog_15_method_54_code 1) = true := by decide +kernel
theorem dk_270 : cd_270.all (pm_dk prog_15_method_56_code 2) = true := by decide +kernel
theorem dk_271 : cd_271.all (pm_dk prog_15_method_152_code 1) = true := by decide +kernel
theorem dk_272 : cd_272.all (pm_dk prog_15_method_154_code 1) = true := by decide +kernel
theorem dk_273 : cd_273.all (pm_dk prog_15_method_155_code 2) = true := by decide +kernel
theorem dk_274 : cd_274.all (pm_dk prog_16_method_2_code 2) = true := by decide +kernel
theorem dk_275 : cd_275.all (pm_dk prog_19_method_11_code 3) = true := by decide +kernel
theorem dk_276_0 : ((cd_276.drop 0).take 100).all (pm_dk code 4) = true := by decide +kernel
theorem dk_276_100 : ((cd_276.drop 100).take 100).all (pm_dk code 4) = true := by decide +kernel
theorem dk_276_200 : ((cd_276.drop 200).take 100).all (pm_dk code 4) = true := by decide +kernel
theorem dk_276_300 : ((cd_276.drop 300).take 100).all (pm_dk code 4) = true := by decide +kernel
theorem dk_276_400 : ((cd_276.drop 400).take 100).all (pm_dk code 4) = true := by decide +kernel
theorem dk_276_500 : ((cd_276.drop 500).take 100).all (pm_dk code 4) = true := by decide +kernel
theorem dk_276_600 : ((cd_276.drop 600).take 100).all (pm_dk code 4) = true := by decide +kernel
theorem dk_276_700 : ((cd_276.drop 700).take 100).all (pm_dk code 4) = true := by decide +kernel
theorem dk_276_800 : ((cd_276.drop 800).take 100).all (pm_dk code 4) = true := by decide +kernel
theorem dk_276_900 : ((cd_276.drop 900).take 100).all (pm_dk code 4) = true := by decide +kernel
theorem dk_276_1000 : ((cd_276.drop 1000).take 100).all (pm_dk code 4) = true := by decide +kernel
theorem dk_276_1100 : (cd_276.drop 1100).all (pm_dk code 4) = true := by decide +kernel
theorem dk_276 : cd_276.all (pm_dk code 4) = true := (all_chunk 0 dk_276_0 (all_chunk 100 dk_276_100 (all_chunk 200 dk_276_200 (all_chunk 300 dk_276_300 (all_chunk 400 dk_276_400 (all_chunk 500 dk_276_500 (all_chunk 600 dk_276_600 (all_chunk 700 dk_276_700 (all_chunk 800 dk_276_800 (all_chunk 900 dk_276_900 (all_chunk 1000 dk_276_1000 dk_276_1100)))))))))))
end
section
def pm_dkm (m : Nat) : Prop := (pm_cd m).all (pm_dk (pm_by m) (pm_mxl m)) = true
theorem dkm_0 : ∀ i, i < 20 → pm_dkm (i + 0)
  | 0, _ => dk_0
  | 1, _ => dk_1
  | 2, _ => dk_2
  | 3, _ => dk_3
  | 4, _ => dk_4
  | 5, _ => dk_5
  | 6, _ => dk_6
  | 7, _ => dk_7
  | 8, _ => dk_8
  | 9, _ => dk_9
  | 10, _ => dk_10
  | 11, _ => dk_11
  | 12, _ => dk_12
  | 13, _ => dk_13
  | 14, _ => dk_14
  | 15, _ => dk_15
  | 16, _ => dk_16
  | 17, _ => dk_17
  | 18, _ => dk_18
  | 19, _ => dk_19
  | n + 20, h => absurd h (by omega)
theorem dkm_20 : ∀ i, i < 20 → pm_dkm (i + 20)
  | 0, _ => dk_20
  | 1, _ => dk_21
  | 2, _ => dk_22
  | 3, _ => dk_23
  | 4, _ => dk_24
  | 5, _ => dk_25
  | 6, _ => dk_26
  | 7, _ => dk_27
  | 8, _ => dk_28
  | 9, _ => dk_29
  | 10, _ => dk_30
  | 11, _ => dk_31
  | 12, _ => dk_32
  | 13, _ => dk_33
  | 14, _ => dk_34
  | 15, _ => dk_35
  | 16, _ => dk_36
  | 17, _ => dk_37
  | 18, _ => dk_38
  | 19, _ => dk_39
  | n + 20, h => absurd h (by omega)
theorem dkm_40 : ∀ i, i < 20 → pm_dkm (i + 40)
  | 0, _ => dk_40
  | 1, _ => dk_41
  | 2, _ => dk_42
  | 3, _ => dk_43
  | 4, _ => dk_44
  | 5, _ => dk_45
  | 6, _ => dk_46
  | 7, _ => dk_47
  | 8, _ => dk_48
  | 9, _ => dk_49
  | 10, _ => dk_50
  | 11, _ => dk_51
  | 12, _ => dk_52
  | 13, _ => dk_53
  | 14, _ => dk_54
  | 15, _ => dk_55
  | 16, _ => dk_56
  | 17, _ => dk_57
  | 18, _ => dk_58
  | 19, _ => dk_59
  | n + 20, h => absurd h (by omega)
theorem dkm_60 : ∀ i, i < 20 → pm_dkm (i + 60)
  | 0, _ => dk_60
  | 1, _ => dk_61
  | 2, _ => dk_62
  | 3, _ => dk_63
  | 4, _ => dk_64
  | 5, _ => dk_65
  | 6, _ => dk_66
  | 7, _ => dk_67
  | 8, _ => dk_68
  | 9, _ => dk_69
  | 10, _ => dk_70
  | 11, _ => dk_71
  | 12, _ => dk_72
  | 13, _ => dk_73
  | 14, _ => dk_74
  | 15, _ => dk_75
  | 16, _ => dk_76
  | 17, _ => dk_77
  | 18, _ => dk_78
  | 19, _ => dk_79
  | n + 20, h => absurd h (by omega)
theorem dkm_80 : ∀ i, i < 20 → pm_dkm (i + 80)
  | 0, _ => dk_80
  | 1, _ => dk_81
  | 2, _ => dk_82
  | 3, _ => dk_83
  | 4, _ => dk_84
  | 5, _ => dk_85
  | 6, _ => dk_86
  | 7, _ => dk_87
  | 8, _ => dk_88
  | 9, _ => dk_89
  | 10, _ => dk_90
  | 11, _ => dk_91
  | 12, _ => dk_92
  | 13, _ => dk_93
  | 14, _ => dk_94
  | 15, _ => dk_95
  | 16, _ => dk_96
  | 17, _ => dk_97
  | 18, _ => dk_98
  | 19, _ => dk_99
  | n + 20, h => absurd h (by omega)
theorem dkm_100 : ∀ i, i < 20 → pm_dkm (i + 100)
  | 0, _ => dk_100
  | 1, _ => dk_101
  | 2, _ => dk_102
  | 3, _ => dk_103
  | 4, _ => dk_104
  | 5, _ => dk_105
  | 6, _ => dk_106
  | 7, _ => dk_107
  | 8, _ => dk_108
  | 9, _ => dk_109
  | 10, _ => dk_110
  | 11, _ => dk_111
  | 12, _ => dk_112
  | 13, _ => dk_113
  | 14, _ => dk_114
  | 15, _ => dk_115
  | 16, _ => dk_116
  | 17, _ => dk_117
  | 18, _ => dk_118
  | 19, _ => dk_119
  | n + 20, h => absurd h (by omega)
theorem dkm_120 : ∀ i, i < 20 → pm_dkm (i + 120)
  | 0, _ => dk_120
  | 1, _ => dk_121
  | 2, _ => dk_122
  | 3, _ => dk_123
  | 4, _ => dk_124
  | 5, _ => dk_125
  | 6, _ => dk_126
  | 7, _ => dk_127
  | 8, _ => dk_128
  | 9, _ => dk_129
  | 10, _ => dk_130
  | 11, _ => dk_131
  | 12, _ => dk_132
  | 13, _ => dk_133
  | 14, _ => dk_134
  | 15, _ => dk_135
  | 16, _ => dk_136
  | 17, _ => dk_137
  | 18, _ => dk_138
  | 19, _ => dk_139
  | n + 20, h => absurd h (by omega)
theorem dkm_140 : ∀ i, i < 20 → pm_dkm (i + 140)
  | 0, _ => dk_140
  | 1, _ => dk_141
  | 2, _ => dk_142
  | 3, _ => dk_143
  | 4, _ => dk_144
  | 5, _ => dk_145
  | 6, _ => dk_146
  | 7, _ => dk_147
  | 8, _ => dk_148
  | 9, _ => dk_149
  | 10, _ => dk_150
  | 11, _ => dk_151
  | 12, _ => dk_152
  | 13, _ => dk_153
  | 14, _ => dk_154
  | 15, _ => dk_155
  | 16, _ => dk_156
  | 17, _ => dk_157
  | 18, _ => dk_158
  | 19, _ => dk_159
  | n + 20, h => absurd h (by omega)
theorem dkm_160 : ∀ i, i < 20 → pm_dkm (i + 160)
  | 0, _ => dk_160
  | 1, _ => dk_161
  | 2, _ => dk_162
  | 3, _ => dk_163
  | 4, _ => dk_164
  | 5, _ => dk_165
  | 6, _ => dk_166
  | 7, _ => dk_167
  | 8, _ => dk_168
  | 9, _ => dk_169
  | 10, _ => dk_170
  | 11, _ => dk_171
  | 12, _ => dk_172
  | 13, _ => dk_173
  | 14, _ => dk_174
  | 15, _ => dk_175
  | 16, _ => dk_176
  | 17, _ => dk_177
  | 18, _ => dk_178
  | 19, _ => dk_179
  | n + 20, h => absurd h (by omega)
theorem dkm_180 : ∀ i, i < 20 → pm_dkm (i + 180)
  | 0, _ => dk_180
  | 1, _ => dk_181
  | 2, _ => dk_182
  | 3, _ => dk_183
  | 4, _ => dk_184
  | 5, _ => dk_185
  | 6, _ => dk_186
  | 7, _ => dk_187
  | 8, _ => dk_188
  | 9, _ => dk_189
  | 10, _ => dk_190
  | 11, _ => dk_191
  | 12, _ => dk_192
  | 13, _ => dk_193
  | 14, _ => dk_194
  | 15, _ => dk_195
  | 16, _ => dk_196
  | 17, _ => dk_197
  | 18, _ => dk_198
  | 19, _ => dk_199
  | n + 20, h => absurd h (by omega)
theorem dkm_200 : ∀ i, i < 20 → pm_dkm (i + 200)
  | 0, _ => dk_200
  | 1, _ => dk_201
  | 2, _ => dk_202
  | 3, _ => dk_203
  | 4, _ => dk_204
  | 5, _ => dk_205
  | 6, _ => dk_206
  | 7, _ => dk_207
  | 8, _ => dk_208
  | 9, _ => dk_209
  | 10, _ => dk_210
  | 11, _ => dk_211
  | 12, _ => dk_212
  | 13, _ => dk_213
  | 14, _ => dk_214
  | 15, _ => dk_215
  | 16, _ => dk_216
  | 17, _ => dk_217
  | 18, _ => dk_218
  | 19, _ => dk_219
  | n + 20, h => absurd h (by omega)
theorem dkm_220 : ∀ i, i < 20 → pm_dkm (i + 220)
  | 0, _ => dk_220
  | 1, _ => dk_221
  | 2, _ => dk_222
  | 3, _ => dk_223
  | 4, _ => dk_224
  | 5, _ => dk_225
  | 6, _ => dk_226
  | 7, _ => dk_227
  | 8, _ => dk_228
  | 9, _ => dk_229
  | 10, _ => dk_230
  | 11, _ => dk_231
  | 12, _ => dk_232
  | 13, _ => dk_233
  | 14, _ => dk_234
  | 15, _ => dk_235
  | 16, _ => dk_236
  | 17, _ => dk_237
  | 18, _ => dk_238
  | 19, _ => dk_239
  | n + 20, h => absurd h (by omega)
theorem dkm_240 : ∀ i, i < 20 → pm_dkm (i + 240)
  | 0, _ => dk_240
  | 1, _ => dk_241
  | 2, _ => dk_242
  | 3, _ => dk_243
  | 4, _ => dk_244
  | 5, _ => dk_245
  | 6, _ => dk_246
  | 7, _ => dk_247
  | 8, _ => dk_248
  | 9, _ => dk_249
  | 10, _ => dk_250
  | 11, _ => dk_251
  | 12, _ => dk_252
  | 13, _ => dk_253
  | 14, _ => dk_254
  | 15, _ => dk_255
  | 16, _ => dk_256
  | 17, _ => dk_257
  | 18, _ => dk_258
  | 19, _ => dk_259
  | n + 20, h => absurd h (by omega)
theorem dkm_260 : ∀ i, i < 17 → pm_dkm (i + 260)
  | 0, _ => dk_260
  | 1, _ => dk_261
  | 2, _ => dk_262
  | 3, _ => dk_263
  | 4, _ => dk_264
  | 5, _ => dk_265
  | 6, _ => dk_266
  | 7, _ => dk_267
  | 8, _ => dk_268
  | 9, _ => dk_269
  | 10, _ => dk_270
  | 11, _ => dk_271
  | 12, _ => dk_272
  | 13, _ => dk_273
  | 14, _ => dk_274
  | 15, _ => dk_275
  | 16, _ => dk_276
  | n + 17, h => absurd h (by omega)
theorem dkm_all (m : Nat) : pm_dkm m := by
  by_cases hm : m < 277
  · by_cases h0 : 0 ≤ m ∧ m < 20
    · have := dkm_0 (m - 0) (by omega)
      rw [Nat.sub_add_cancel h0.1] at this
      exact this
    by_cases h20 : 20 ≤ m ∧ m < 40
    · have := dkm_20 (m - 20) (by omega)
      rw [Nat.sub_add_cancel h20.1] at this
      exact this
    by_cases h40 : 40 ≤ m ∧ m < 60
    · have := dkm_40 (m - 40) (by omega)
      rw [Nat.sub_add_cancel h40.1] at this
      exact this
    by_cases h60 : 60 ≤ m ∧ m < 80
    · have := dkm_60 (m - 60) (by omega)
      rw [Nat.sub_add_cancel h60.1] at this
      exact this
    by_cases h80 : 80 ≤ m ∧ m < 100
    · have := dkm_80 (m - 80) (by omega)
      rw [Nat.sub_add_cancel h80.1] at this
      exact this
    by_cases h100 : 100 ≤ m ∧ m < 120
    · have := dkm_100 (m - 100) (by omega)
      rw [Nat.sub_add_cancel h100.1] at this
      exact this
    by_cases h120 : 120 ≤ m ∧ m < 140
    · have := dkm_120 (m - 120) (by omega)
      rw [Nat.sub_add_cancel h120.1] at this
      exact this
    by_cases h140 : 140 ≤ m ∧ m < 160
    · have := dkm_140 (m - 140) (by omega)
      rw [Nat.sub_add_cancel h140.1] at this
      exact this
    by_cases h160 : 160 ≤ m ∧ m < 180
    · have := dkm_160 (m - 160) (by omega)
      rw [Nat.sub_add_cancel h160.1] at this
      exact this
    by_cases h180 : 180 ≤ m ∧ m < 200
    · have := dkm_180 (m - 180) (by omega)
      rw [Nat.sub_add_cancel h180.1] at this
      exact this
    by_cases h200 : 200 ≤ m ∧ m < 220
    · have := dkm_200 (m - 200) (by omega)
      rw [Nat.sub_add_cancel h200.1] at this
      exact this
    by_cases h220 : 220 ≤ m ∧ m < 240
    · have := dkm_220 (m - 220) (by omega)
      rw [Nat.sub_add_cancel h220.1] at this
      exact this
    by_cases h240 : 240 ≤ m ∧ m < 260
    · have := dkm_240 (m - 240) (by omega)
      rw [Nat.sub_add_cancel h240.1] at this
      exact this
    by_cases h260 : 260 ≤ m ∧ m < 280
    · have := dkm_260 (m - 260) (by omega)
      rw [Nat.sub_add_cancel h260.1] at this
      exact this
    omega
  · have e1 : pm_cd m = [] := by
      have h0 : Nat.blt m 277 = false := by
        cases h : Nat.blt m 277 with
        | false => rfl
        | true => exact absurd (Nat.le_of_ble_eq_true h) (by omega)
      unfold pm_cd pm_M
      rw [h0]
      rfl
    unfold pm_dkm
    rw [e1]
    rfl
theorem tf_dk {m pc : Nat} {ins : Instr} {n : Nat} {kp : Option (List Bool)} (h : pm_fetch m pc = some (ins, n, kp)) : pm_dk (pm_by m) (pm_mxl m) (pc, ins, n, kp) = true := List.all_eq_true.mp (dkm_all m) _ (pm_lookup_mem (by rw [← pm_lk_eq]; exact h))
theorem tf_dec {m pc : Nat} {ins : Instr} {n : Nat} {kp : Option (List Bool)} (h : pm_fetch m pc = some (ins, n, kp)) : decode (pm_by m) pc = .ok (ins, n) ∧ (pm_il ins = 0 ∨ n = pm_il ins) ∧ ∀ bs, kp = some bs → bs.length = pm_mxl m := by
  have hk := tf_dk h
  unfold pm_dk at hk
  simp only [Bool.and_eq_true, Bool.or_eq_true, decide_eq_true_eq, beq_iff_eq] at hk
  obtain ⟨⟨⟨h1, h2⟩, h3⟩, h4⟩ := hk
  refine ⟨h1, h2, fun bs e => ?_⟩
  subst e
  simpa using h4
theorem tf_tok {m pc : Nat} {ins : Instr} {n : Nat} {kp : Option (List Bool)} (h : pm_fetch m pc = some (ins, n, kp)) : pm_tok pc ins = true := by
  have hk := tf_dk h
  unfold pm_dk at hk
  simp only [Bool.and_eq_true] at hk
  exact hk.1.2
end
section
def pm_sI (h : PH) (t i k : Nat) (v : Int32) : PH := (fun a b c => if a = t then (if c = k then (if b = i then v else h.1 a b c) else h.1 a b c) else h.1 a b c, h.2)
def pm_sL (h : PH) (t i k : Nat) (v : Int64) : PH := (h.1, fun a b c => if a = t then (if c = k then (if b = i then v else h.2 a b c) else h.2 a b c) else h.2 a b c)
/-- a stretch of ints copied: n of them from (t, i) at sp to (t', i') at dp -/
def pm_cp (h : PH) (t i sp t' i' dp n : Nat) : PH := (fun a b c => if a = t' then (if b = i' ∧ dp ≤ c ∧ c < dp + n then h.1 t i (sp + (c - dp)) else h.1 a b c) else h.1 a b c, h.2)
theorem pm_sI_at (h : PH) (t i k : Nat) (v : Int32) (a b c : Nat) : (pm_sI h t i k v).1 a b c = if a = t ∧ b = i ∧ c = k then v else h.1 a b c := by
  show (if a = t then (if c = k then (if b = i then v else h.1 a b c) else h.1 a b c) else h.1 a b c) = _
  by_cases h1 : a = t
  · by_cases h2 : c = k
    · by_cases h3 : b = i
      · simp [h1, h2, h3]
      · simp [h1, h2, h3]
    · simp [h2]
  · simp [h1]
theorem pm_sL_at (h : PH) (t i k : Nat) (v : Int64) (a b c : Nat) : (pm_sL h t i k v).2 a b c = if a = t ∧ b = i ∧ c = k then v else h.2 a b c := by
  show (if a = t then (if c = k then (if b = i then v else h.2 a b c) else h.2 a b c) else h.2 a b c) = _
  by_cases h1 : a = t
  · by_cases h2 : c = k
    · by_cases h3 : b = i
      · simp [h1, h2, h3]
      · simp [h1, h2, h3]
    · simp [h2]
  · simp [h1]
theorem pm_cp_at (h : PH) (t i sp t' i' dp n : Nat) (a b c : Nat) : (pm_cp h t i sp t' i' dp n).1 a b c = if a = t' ∧ b = i' ∧ dp ≤ c ∧ c < dp + n then h.1 t i (sp + (c - dp)) else h.1 a b c := by
  show (if a = t' then (if b = i' ∧ dp ≤ c ∧ c < dp + n then h.1 t i (sp + (c - dp)) else h.1 a b c) else h.1 a b c) = _
  by_cases h1 : a = t'
  · simp [h1]
  · simp [h1]
def pm_cat (v : PV) : Nat := match v with
  | some (.inr (.inl _)) => 2
  | _ => 1
/-- the locals that are kept at a jump's target -/
def pm_mk (kp : Option (List Bool)) (ls : List PV) : List PV := match kp with
  | none => ls
  | some bs => List.zipWith (fun b v => if b = true then v else none) bs ls
/-- a long in front of place i is no more -/
def pm_kl (ls : List PV) (i : Nat) : List PV := match i with
  | 0 => ls
  | j + 1 => match ls[j]? with
    | some (some (.inr (.inl _))) => ls.set j none
    | _ => ls
def pm_s1 (ls : List PV) (i : Nat) (v : PV) : List PV := (pm_kl ls i).set i v
def pm_s2 (ls : List PV) (i : Nat) (v : PV) : List PV := ((pm_kl ls i).set i v).set (i + 1) none
def pm_loc (as : List PV) : List PV := as.flatMap fun v => if pm_cat v = 2 then [v, none] else [v]
def pm_tg (pc : Nat) (off : Int) : Nat := ((pc : Int) + off).toNat
/-- an array's length -/
def pm_len (h : PH) (t i : Nat) : Nat := if t < 44 then (pm_nth pm_at (t - 10) (9, 0)).2 else if t = 61 then pm_nth pm_SL i 0 else if t = 62 then 4 else if t = 63 then 21 else if t = 64 then 84 else if t = 65 then (h.1 66 0 0).toNatClampNeg else 0
/-- tags of arrays of ints that may be read, and written -/
def pm_isI (t : Nat) : Bool := (10 ≤ t && t < 44 && pm_ak t == 0) || t == 62 || t == 63 || t == 64 || t == 65
def pm_isW (t k : Nat) : Bool := 10 ≤ t && t < 44 && pm_ak t == k
def pm_nar (c : Nat) (x : Int32) : Int32 := match c with
  | 2 => x &&& 1
  | 5 => (x.toUInt32 % 65536).toInt32
  | 6 => x.toInt8.toInt32
  | _ => x
def pm_sw {α : Type} (k : Int → α) (x : Int32) : Int → List Int → Int → α
  | _, [], d => k d
  | a, o :: r, d => if x = Int32.ofInt a then k o else pm_sw k x (a + 1) r d
def pm_ls {α : Type} (k : Int → α) (x : Int32) : List (Int × Int) → Int → α
  | [], d => k d
  | (a, o) :: r, d => if x = Int32.ofInt a then k o else pm_ls k x r d
/-- the tag of what a method answers that answers with a reference -/
def pm_rtg (m : Nat) : Nat := pm_nth pm_RT m 0
/-- an answer taken: an int, a long, nothing, a reference -/
def pm_bI (o : Option PR) (f : Int32 → PH → Option PR) : Option PR := match o with
  | some (some (some (.inl x)), h) => f x h
  | _ => none
def pm_bL (o : Option PR) (f : Int64 → PH → Option PR) : Option PR := match o with
  | some (some (some (.inr (.inl x))), h) => f x h
  | _ => none
def pm_bV (o : Option PR) (f : PH → Option PR) : Option PR := match o with
  | some (none, h) => f h
  | _ => none
def pm_bR (o : Option PR) (t : Nat) (f0 : PH → Option PR) (f1 : Nat → PH → Option PR) : Option PR := match o with
  | some (some (some (.inr (.inr none))), h) => f0 h
  | some (some (some (.inr (.inr (some (t', i))))), h) => if t' = t then f1 i h else none
  | _ => none
def pm_ent (m : Nat) (as : List PV) : List PV := pm_loc as ++ List.replicate (pm_mxl m - (pm_loc as).length) none
def pm_cats (st : List PV) : Nat := (st.map pm_cat).sum
/-- a call of m' with its arguments on the stack; v: virtual -/
def pm_call {α : Type} (z : α) (g : PS → α) (c : PS → PC → α) (v : Bool) (m' m pc : Nat) (ls st : List PV) (h : PH) : α :=
  let as := (st.take (pm_na m')).reverse
  let rest := st.drop (pm_na m')
  if pm_na m' ≤ st.length ∧ pm_cats rest ≤ 8 ∧ pm_fr m' + 1 ≤ pm_fr m ∧ 19 + pm_mxl m' + pm_lo m' ≤ pm_lo m ∧ (pm_loc as).length ≤ pm_mxl m' ∧ (v = decide (pm_cls m' ≠ 0)) then
    match v, as with
    | false, _ => c (m', 0, pm_ent m' as, [], h) (m, pc, ls, rest)
    | true, some (.inr (.inr (some (t, _)))) :: _ => if t + 1 = pm_cls m' then c (m', 0, pm_ent m' as, [], h) (m, pc, ls, rest) else z
    | _, _ => z
  else z
def pm_inv {α : Type} (z : α) (g : PS → α) (c : PS → PC → α) (v : Bool) (idx m pc : Nat) (ls st : List PV) (h : PH) : α := match pm_lk (pm_nth pm_L (pm_own m) []) idx with
  | none => z
  | some m' => if m' = 1000 then (match v, st with
      | false, some (.inl n) :: some (.inl dp) :: some (.inr (.inr (some (t', i')))) :: some (.inl sp) :: some (.inr (.inr (some (t, i)))) :: rest =>
        if pm_isW t 0 = true ∧ pm_isW t' 0 = true ∧ ¬ sp < 0 ∧ ¬ dp < 0 ∧ ¬ n < 0 ∧ sp.toNatClampNeg + n.toNatClampNeg ≤ pm_len h t i ∧ dp.toNatClampNeg + n.toNatClampNeg ≤ pm_len h t' i' ∧ 1 ≤ pm_fr m ∧ pm_cats rest + 18 ≤ pm_lo m then
          g (m, pc, ls, rest, (pm_cp h t i sp.toNatClampNeg t' i' dp.toNatClampNeg n.toNatClampNeg)) else z
      | _, _ => z)
    else if 1000 < m' then (match v, m', st with
      | false, 1001, some (.inl x) :: rest => if 1 ≤ pm_fr m ∧ pm_cats rest + 13 ≤ pm_lo m then g (m, pc, ls, vi (if 0 ≤ x then x else 0 - x) :: rest, h) else z
      | false, 1002, some (.inl y) :: some (.inl x) :: rest => if 1 ≤ pm_fr m ∧ pm_cats rest + 13 ≤ pm_lo m then g (m, pc, ls, vi (if x < y then y else x) :: rest, h) else z
      | false, 1003, some (.inl y) :: some (.inl x) :: rest => if 1 ≤ pm_fr m ∧ pm_cats rest + 13 ≤ pm_lo m then g (m, pc, ls, vi (if y < x then y else x) :: rest, h) else z
      | _, _, _ => z)
    else pm_call z g c v m' m pc ls st h
def pm_ild {α : Type} (z : α) (g : PS → α) (ls : List PV) (i m pc : Nat) (st : List PV) (h : PH) : α := match ls[i]? with
  | some (some (.inl x)) => g (m, pc, ls, (vi x :: st), h)
  | _ => z
def pm_lld {α : Type} (z : α) (g : PS → α) (ls : List PV) (i m pc : Nat) (st : List PV) (h : PH) : α := match ls[i]? with
  | some (some (.inr (.inl x))) => g (m, pc, ls, (vl x :: st), h)
  | _ => z
def pm_ald {α : Type} (z : α) (g : PS → α) (ls : List PV) (i m pc : Nat) (st : List PV) (h : PH) : α := match ls[i]? with
  | some (some (.inr (.inr x))) => g (m, pc, ls, (some (.inr (.inr x)) :: st), h)
  | _ => z
def pm_ist {α : Type} (z : α) (g : PS → α) (ls : List PV) (i m pc : Nat) (st : List PV) (h : PH) : α := match st with
  | some (.inl x) :: st => if i < ls.length then g (m, pc, (pm_s1 ls i (vi x)), st, h) else z
  | _ => z
def pm_lst {α : Type} (z : α) (g : PS → α) (ls : List PV) (i m pc : Nat) (st : List PV) (h : PH) : α := match st with
  | some (.inr (.inl x)) :: st => if i + 1 < ls.length then g (m, pc, (pm_s2 ls i (vl x)), st, h) else z
  | _ => z
def pm_ast {α : Type} (z : α) (g : PS → α) (ls : List PV) (i m pc : Nat) (st : List PV) (h : PH) : α := match st with
  | some (.inr (.inr x)) :: st => if i < ls.length then g (m, pc, (pm_s1 ls i (some (.inr (.inr x)))), st, h) else z
  | _ => z
def pm_b1 {α : Type} (z : α) (g : PS → α) (f : Int32 → Int32) (m pc : Nat) (ls st : List PV) (h : PH) : α := match st with
  | some (.inl x) :: st => g (m, pc, ls, (vi (f x) :: st), h)
  | _ => z
def pm_b2 {α : Type} (z : α) (g : PS → α) (f : Int32 → Int32 → Int32) (m pc : Nat) (ls st : List PV) (h : PH) : α := match st with
  | some (.inl y) :: some (.inl x) :: st => g (m, pc, ls, (vi (f x y) :: st), h)
  | _ => z
def pm_l2 {α : Type} (z : α) (g : PS → α) (f : Int64 → Int64 → Int64) (m pc : Nat) (ls st : List PV) (h : PH) : α := match st with
  | some (.inr (.inl y)) :: some (.inr (.inl x)) :: st => g (m, pc, ls, (vl (f x y) :: st), h)
  | _ => z
def pm_lsh {α : Type} (z : α) (g : PS → α) (f : Int64 → Int32 → Int64) (m pc : Nat) (ls st : List PV) (h : PH) : α := match st with
  | some (.inl y) :: some (.inr (.inl x)) :: st => g (m, pc, ls, (vl (f x y) :: st), h)
  | _ => z
def pm_ifz {α : Type} (c : ClassFile.Cond) (x : Int32) (a b : α) : α := match c with
  | .eq => if x = 0 then a else b
  | .ne => if x = 0 then b else a
  | .lt => if x < 0 then a else b
  | .ge => if x < 0 then b else a
  | .gt => if 0 < x then a else b
  | .le => if 0 < x then b else a
def pm_ifc {α : Type} (c : ClassFile.Cond) (x y : Int32) (a b : α) : α := match c with
  | .eq => if x = y then a else b
  | .ne => if x = y then b else a
  | .lt => if x < y then a else b
  | .ge => if x < y then b else a
  | .gt => if y < x then a else b
  | .le => if y < x then b else a
def pm_if1 {α : Type} (z : α) (g : PS → α) (cd : ClassFile.Cond) (m pc tg : Nat) (ls st : List PV) (h : PH) : α := match st with
  | some (.inl x) :: st => pm_ifz cd x (g (m, tg, ls, st, h)) (g (m, pc, ls, st, h))
  | _ => z
def pm_if2 {α : Type} (z : α) (g : PS → α) (cd : ClassFile.Cond) (m pc tg : Nat) (ls st : List PV) (h : PH) : α := match st with
  | some (.inl y) :: some (.inl x) :: st => pm_ifc cd x y (g (m, tg, ls, st, h)) (g (m, pc, ls, st, h))
  | _ => z
def pm_cz (c : ClassFile.Cond) (x : Int32) : Bool := match c with
  | .eq => decide (x = 0)
  | .ne => decide (¬ x = 0)
  | .lt => decide (x < 0)
  | .ge => decide (0 ≤ x)
  | .gt => decide (0 < x)
  | .le => decide (x ≤ 0)
def pm_cc (c : ClassFile.Cond) (x y : Int32) : Bool := match c with
  | .eq => decide (x = y)
  | .ne => decide (¬ x = y)
  | .lt => decide (x < y)
  | .ge => decide (y ≤ x)
  | .gt => decide (y < x)
  | .le => decide (x ≤ y)
def pm_get {α : Type} (z : α) (g : PS → α) (idx m pc : Nat) (ls st : List PV) (h : PH) : α := match st with
  | some (.inr (.inr (some (t, i)))) :: st => match pm_lk (pm_nth pm_F (pm_own m) []) idx with
    | none => z
    | some (ci, k) => if t = ci then (if ci = 60 then (if k = 0 then g (m, pc, ls, (vr 61 i :: st), h) else if k = 1 then g (m, pc, ls, (vi 0 :: st), h) else z) else match pm_fty ci k with
      | 0 => g (m, pc, ls, (vi (h.1 t i k) :: st), h)
      | 2 => g (m, pc, ls, (vi (h.1 t i k) :: st), h)
      | 1 => g (m, pc, ls, (vl (h.2 t i k) :: st), h)
      | 3 => g (m, pc, ls, (pm_rf ci k i :: st), h)
      | _ => z) else z
  | _ => z
def pm_put {α : Type} (z : α) (g : PS → α) (idx m pc : Nat) (ls st : List PV) (h : PH) : α := match st with
  | v :: some (.inr (.inr (some (t, i)))) :: st => match pm_lk (pm_nth pm_F (pm_own m) []) idx with
    | none => z
    | some (ci, k) => if t = ci ∧ ci < 9 then (match pm_fty ci k, v with
      | 0, some (.inl x) => g (m, pc, ls, st, (pm_sI h t i k x))
      | 2, some (.inl x) => if x &&& 1 = x then g (m, pc, ls, st, (pm_sI h t i k x)) else z
      | 1, some (.inr (.inl x)) => g (m, pc, ls, st, (pm_sL h t i k x))
      | _, _ => z) else z
  | _ => z
def pm_gst {α : Type} (z : α) (g : PS → α) (idx m pc : Nat) (ls st : List PV) (h : PH) : α := match pm_lk (pm_nth pm_G (pm_own m) []) idx with
  | some 0 => g (m, pc, ls, (vr 62 0 :: st), h)
  | some 1 => g (m, pc, ls, (vr 63 0 :: st), h)
  | some 2 => g (m, pc, ls, (vr 64 0 :: st), h)
  | some 3 => g (m, pc, ls, (vi 1 :: st), h)
  | some 4 => g (m, pc, ls, (vr 67 0 :: st), h)
  | _ => z
def pm_inb (j : Int32) (n : Nat) : Bool := decide (0 ≤ j) && decide (j.toNatClampNeg < n)
def pm_iald {α : Type} (z : α) (g : PS → α) (m pc : Nat) (ls st : List PV) (h : PH) : α := match st with
  | some (.inl j) :: some (.inr (.inr (some (t, i)))) :: st => if pm_isI t = true then (if pm_inb j (pm_len h t i) = true then g (m, pc, ls, (vi (h.1 t i j.toNatClampNeg) :: st), h) else z) else z
  | _ => z
def pm_bald {α : Type} (z : α) (g : PS → α) (m pc : Nat) (ls st : List PV) (h : PH) : α := match st with
  | some (.inl j) :: some (.inr (.inr (some (t, i)))) :: st => if (pm_isW t 2 || t == 61) = true then (if pm_inb j (pm_len h t i) = true then g (m, pc, ls, (vi (h.1 t i j.toNatClampNeg) :: st), h) else z) else z
  | _ => z
def pm_lald {α : Type} (z : α) (g : PS → α) (m pc : Nat) (ls st : List PV) (h : PH) : α := match st with
  | some (.inl j) :: some (.inr (.inr (some (t, i)))) :: st => if pm_isW t 1 = true then (if pm_inb j (pm_len h t i) = true then g (m, pc, ls, (vl (h.2 t i j.toNatClampNeg) :: st), h) else z) else z
  | _ => z
def pm_aald {α : Type} (z : α) (g : PS → α) (m pc : Nat) (ls st : List PV) (h : PH) : α := match st with
  | some (.inl j) :: some (.inr (.inr (some (t, i)))) :: st => if pm_isW t 3 = true then (if pm_inb j (pm_len h t i) = true then g (m, pc, ls, (pm_aref t i j.toNatClampNeg :: st), h) else z) else z
  | _ => z
def pm_iast {α : Type} (z : α) (g : PS → α) (m pc : Nat) (ls st : List PV) (h : PH) : α := match st with
  | some (.inl x) :: some (.inl j) :: some (.inr (.inr (some (t, i)))) :: st => if pm_isW t 0 = true then (if pm_inb j (pm_len h t i) = true then g (m, pc, ls, st, (pm_sI h t i j.toNatClampNeg x)) else z) else z
  | _ => z
def pm_bast {α : Type} (z : α) (g : PS → α) (m pc : Nat) (ls st : List PV) (h : PH) : α := match st with
  | some (.inl x) :: some (.inl j) :: some (.inr (.inr (some (t, i)))) :: st => if pm_isW t 2 = true then (if pm_inb j (pm_len h t i) = true then g (m, pc, ls, st, (pm_sI h t i j.toNatClampNeg (x &&& 1))) else z) else z
  | _ => z
def pm_last {α : Type} (z : α) (g : PS → α) (m pc : Nat) (ls st : List PV) (h : PH) : α := match st with
  | some (.inr (.inl x)) :: some (.inl j) :: some (.inr (.inr (some (t, i)))) :: st => if pm_isW t 1 = true then (if pm_inb j (pm_len h t i) = true then g (m, pc, ls, st, (pm_sL h t i j.toNatClampNeg x)) else z) else z
  | _ => z
def pm_alen {α : Type} (z : α) (g : PS → α) (m pc : Nat) (ls st : List PV) (h : PH) : α := match st with
  | some (.inr (.inr (some (t, i)))) :: st => if (pm_isI t || pm_isW t 1 || pm_isW t 2 || pm_isW t 3 || t == 61) = true then g (m, pc, ls, (vi (Int32.ofNat (pm_len h t i)) :: st), h) else z
  | _ => z
def pm_op {α : Type} (z : α) (g : PS → α) (r : PR → α) (c : PS → PC → α) (m pc nx : Nat) (ls st : List PV) (h : PH) (ins : Instr) : α := match ins with
  | .iconst v => g (m, nx, ls, (vi (Int32.ofInt v) :: st), h)
  | .bipush v => g (m, nx, ls, (vi (Int8.ofInt v).toInt32 :: st), h)
  | .sipush v => g (m, nx, ls, (vi (Int16.ofInt v).toInt32 :: st), h)
  | .lconst v => g (m, nx, ls, (vl (Int64.ofNat v.val) :: st), h)
  | .iload i => pm_ild z g ls i m nx st h
  | .iload_n i => pm_ild z g ls i.val m nx st h
  | .lload i => pm_lld z g ls i m nx st h
  | .lload_n i => pm_lld z g ls i.val m nx st h
  | .aload i => pm_ald z g ls i m nx st h
  | .aload_n i => pm_ald z g ls i.val m nx st h
  | .istore i => pm_ist z g ls i m nx st h
  | .istore_n i => pm_ist z g ls i.val m nx st h
  | .lstore i => pm_lst z g ls i m nx st h
  | .lstore_n i => pm_lst z g ls i.val m nx st h
  | .astore i => pm_ast z g ls i m nx st h
  | .astore_n i => pm_ast z g ls i.val m nx st h
  | .iinc i v => match ls[i]? with
    | some (some (.inl x)) => g (m, nx, (pm_s1 ls i (vi (x + Int32.ofInt v))), st, h)
    | _ => z
  | .iadd => pm_b2 z g (fun x y => x + y) m nx ls st h
  | .isub => pm_b2 z g (fun x y => x - y) m nx ls st h
  | .imul => pm_b2 z g (fun x y => x * y) m nx ls st h
  | .iand => pm_b2 z g (fun x y => x &&& y) m nx ls st h
  | .ior => pm_b2 z g (fun x y => x ||| y) m nx ls st h
  | .ixor => pm_b2 z g (fun x y => x ^^^ y) m nx ls st h
  | .ishl => pm_b2 z g (fun x y => x <<< (y &&& 31)) m nx ls st h
  | .ishr => pm_b2 z g (fun x y => x >>> (y &&& 31)) m nx ls st h
  | .iushr => pm_b2 z g (fun x y => (x.toUInt32 >>> (y.toUInt32 &&& Int32.toUInt32 31)).toInt32) m nx ls st h
  | .idiv => match st with
    | some (.inl y) :: some (.inl x) :: st => if y = 0 then z else g (m, nx, ls, (vi (x / y) :: st), h)
    | _ => z
  | .irem => match st with
    | some (.inl y) :: some (.inl x) :: st => if y = 0 then z else g (m, nx, ls, (vi (x - x / y * y) :: st), h)
    | _ => z
  | .ineg => pm_b1 z g (fun x => -x) m nx ls st h
  | .i2c => pm_b1 z g (fun x => (x.toUInt32 % 65536).toInt32) m nx ls st h
  | .ladd => pm_l2 z g (fun x y => x + y) m nx ls st h
  | .lsub => pm_l2 z g (fun x y => x - y) m nx ls st h
  | .lmul => pm_l2 z g (fun x y => x * y) m nx ls st h
  | .land => pm_l2 z g (fun x y => x &&& y) m nx ls st h
  | .lor => pm_l2 z g (fun x y => x ||| y) m nx ls st h
  | .lxor => pm_l2 z g (fun x y => x ^^^ y) m nx ls st h
  | .ldiv => match st with
    | some (.inr (.inl y)) :: some (.inr (.inl x)) :: st => if y = 0 then z else g (m, nx, ls, (vl (x / y) :: st), h)
    | _ => z
  | .lrem => match st with
    | some (.inr (.inl y)) :: some (.inr (.inl x)) :: st => if y = 0 then z else g (m, nx, ls, (vl (x - x / y * y) :: st), h)
    | _ => z
  | .lshl => pm_lsh z g (fun x y => x <<< (y.toInt64 &&& 63)) m nx ls st h
  | .lushr => pm_lsh z g (fun x y => (x.toUInt64 >>> (y.toInt64.toUInt64 &&& Int64.toUInt64 63)).toInt64) m nx ls st h
  | .i2l => match st with
    | some (.inl x) :: st => g (m, nx, ls, (vl x.toInt64 :: st), h)
    | _ => z
  | .l2i => match st with
    | some (.inr (.inl x)) :: st => g (m, nx, ls, (vi x.toInt32 :: st), h)
    | _ => z
  | .lcmp => match st with
    | some (.inr (.inl y)) :: some (.inr (.inl x)) :: st => g (m, nx, ls, (vi (lg_cmp x y) :: st), h)
    | _ => z
  | .dup => match st with
    | some v :: st => if pm_cat (some v) = 1 then g (m, nx, ls, (some v :: some v :: st), h) else z
    | _ => z
  | .pop => match st with
    | some v :: st => if pm_cat (some v) = 1 then g (m, nx, ls, st, h) else z
    | _ => z
  | .dup2 => match st with
    | some v :: some w :: st => if pm_cat (some v) = 1 ∧ pm_cat (some w) = 1 then g (m, nx, ls, (some v :: some w :: some v :: some w :: st), h) else if pm_cat (some v) = 2 then g (m, nx, ls, (some v :: some v :: some w :: st), h) else z
    | some v :: [] => if pm_cat (some v) = 2 then g (m, nx, ls, (some v :: some v :: []), h) else z
    | _ => z
  | .ifCond cd off => pm_if1 z g cd m nx (pm_tg pc off) ls st h
  | .if_icmp cd off => pm_if2 z g cd m nx (pm_tg pc off) ls st h
  | .goto off => g (m, (pm_tg pc off), ls, st, h)
  | .ifnull off => match st with
    | some (.inr (.inr none)) :: st => g (m, (pm_tg pc off), ls, st, h)
    | some (.inr (.inr (some (t, _)))) :: st => if t = 67 then z else g (m, nx, ls, st, h)
    | _ => z
  | .ifnonnull off => match st with
    | some (.inr (.inr none)) :: st => g (m, nx, ls, st, h)
    | some (.inr (.inr (some (t, _)))) :: st => if t = 67 then z else g (m, (pm_tg pc off), ls, st, h)
    | _ => z
  | .aconst_null => g (m, nx, ls, (vn :: st), h)
  | .tableswitch d lo hi offs => match st with
    | some (.inl x) :: st => if hi + 1 = lo + offs.size ∧ -2147483648 ≤ lo ∧ hi < 2147483648 then pm_sw (fun o => g (m, pm_tg pc o, ls, st, h)) x lo offs.toList d else z
    | _ => z
  | .lookupswitch d ps => match st with
    | some (.inl x) :: st => if (ps.toList.zip (ps.toList.drop 1)).all (fun (a, next) => decide (a.1 < next.1)) = true ∧ ps.toList.all (fun a => decide (-2147483648 ≤ a.1 ∧ a.1 < 2147483648)) = true then pm_ls (fun o => g (m, pm_tg pc o, ls, st, h)) x ps.toList d else z
    | _ => z
  | .getfield idx => pm_get z g idx m nx ls st h
  | .putfield idx => pm_put z g idx m nx ls st h
  | .getstatic idx => pm_gst z g idx m nx ls st h
  | .iaload => pm_iald z g m nx ls st h
  | .baload => pm_bald z g m nx ls st h
  | .laload => pm_lald z g m nx ls st h
  | .aaload => pm_aald z g m nx ls st h
  | .iastore => pm_iast z g m nx ls st h
  | .bastore => pm_bast z g m nx ls st h
  | .lastore => pm_last z g m nx ls st h
  | .arraylength => pm_alen z g m nx ls st h
  | .ldc idx => match pm_lk (pm_nth pm_CI (pm_own m) []) idx with
    | some v => g (m, nx, ls, (vi v :: st), h)
    | none => match pm_lk (pm_nth pm_CS (pm_own m) []) idx with
      | some i => g (m, nx, ls, (vr 60 i :: st), h)
      | none => z
  | .ldc_w idx => match pm_lk (pm_nth pm_CI (pm_own m) []) idx with
    | some v => g (m, nx, ls, (vi v :: st), h)
    | none => z
  | .ldc2_w idx => match pm_lk (pm_nth pm_CL (pm_own m) []) idx with
    | some v => g (m, nx, ls, (vl v :: st), h)
    | none => z
  | .invokevirtual idx => pm_inv z g c true idx m nx ls st h
  | .invokestatic idx => pm_inv z g c false idx m nx ls st h
  | .ireturn => match st with
    | [some (.inl x)] => match pm_ret m with
      | 1 => r (some (vi x), h)
      | 2 => if x &&& 1 = x then r (some (vi x), h) else z
      | 5 => if (x.toUInt32 % 65536).toInt32 = x then r (some (vi x), h) else z
      | 6 => if x.toInt8.toInt32 = x then r (some (vi x), h) else z
      | _ => z
    | _ => z
  | .lreturn => match st with
    | [some (.inr (.inl x))] => if pm_ret m = 3 then r (some (vl x), h) else z
    | _ => z
  | .areturn => match st with
    | [some (.inr (.inr x))] => if pm_ret m = 4 then r (some (some (.inr (.inr x))), h) else z
    | _ => z
  | .return_ => match st with
    | [] => if pm_ret m = 0 then r (none, h) else z
    | _ => z
  | _ => z
/-- one step: z a stop, g goes on, r returns, c calls -/
def pm_st {α : Type} (z : α) (g : PS → α) (r : PR → α) (c : PS → PC → α) (σ : PS) : α := match σ with
  | (m, pc, ls, st, h) => match pm_fetch m pc with
    | none => z
    | some (ins, n, kp) => pm_op z g r c m pc (pc + n) (pm_mk kp ls) st h ins
def pm_pre (σ : PS) : PA := pm_st none (fun σ => some (.inr (.inl σ))) (fun r => some (.inl r)) (fun σ k => some (.inr (.inr (σ, k)))) σ
/-- a call's answer comes onto the stack: f runs the callee, ih goes on -/
def pm_cl (f ih : PS → Option PR) (σ : PS) (q : PC) : Option PR := match pm_ret σ.1 with
  | 0 => pm_bV (f σ) (fun h => ih (q.1, q.2.1, q.2.2.1, q.2.2.2, h))
  | 3 => pm_bL (f σ) (fun x h => ih (q.1, q.2.1, q.2.2.1, vl x :: q.2.2.2, h))
  | 4 => pm_bR (f σ) (pm_rtg σ.1) (fun h => ih (q.1, q.2.1, q.2.2.1, vn :: q.2.2.2, h)) (fun i h => ih (q.1, q.2.1, q.2.2.1, vr (pm_rtg σ.1) i :: q.2.2.2, h))
  | 1 => pm_bI (f σ) (fun x h => ih (q.1, q.2.1, q.2.2.1, vi x :: q.2.2.2, h))
  | 2 => pm_bI (f σ) (fun x h => ih (q.1, q.2.1, q.2.2.1, vi x :: q.2.2.2, h))
  | 5 => pm_bI (f σ) (fun x h => ih (q.1, q.2.1, q.2.2.1, vi x :: q.2.2.2, h))
  | 6 => pm_bI (f σ) (fun x h => ih (q.1, q.2.1, q.2.2.1, vi x :: q.2.2.2, h))
  | _ => none
def pm_act (ih : PS → Option PR) (a : PA) : Option PR := match a with
  | none => none
  | some (.inl r) => some r
  | some (.inr (.inl σ)) => ih σ
  | some (.inr (.inr (σ, q))) => pm_cl ih ih σ q
def pm_ex : Nat → PS → Option PR
  | 0 => fun _ => none
  | n + 1 => fun σ => pm_act (pm_ex n) (pm_pre σ)
end
section
/-! ONE ANSWER FOR A STATE: pm_ev, with no fuel; it meets its own equation (ev_st). -/
theorem pm_bI_some {o : Option PR} {f : Int32 → PH → Option PR} {r : PR} (h : pm_bI o f = some r) : ∃ x h1, o = some (some (vi x), h1) ∧ f x h1 = some r := by
  unfold pm_bI at h
  split at h
  · exact ⟨_, _, rfl, h⟩
  · cases h
theorem pm_bL_some {o : Option PR} {f : Int64 → PH → Option PR} {r : PR} (h : pm_bL o f = some r) : ∃ x h1, o = some (some (vl x), h1) ∧ f x h1 = some r := by
  unfold pm_bL at h
  split at h
  · exact ⟨_, _, rfl, h⟩
  · cases h
theorem pm_bV_some {o : Option PR} {f : PH → Option PR} {r : PR} (h : pm_bV o f = some r) : ∃ h1, o = some (none, h1) ∧ f h1 = some r := by
  unfold pm_bV at h
  split at h
  · exact ⟨_, rfl, h⟩
  · cases h
theorem pm_bR_some {o : Option PR} {t : Nat} {f0 : PH → Option PR} {f1 : Nat → PH → Option PR} {r : PR} (h : pm_bR o t f0 f1 = some r) : (∃ h1, o = some (some vn, h1) ∧ f0 h1 = some r) ∨ ∃ i h1, o = some (some (vr t i), h1) ∧ f1 i h1 = some r := by
  unfold pm_bR at h
  split at h
  · exact Or.inl ⟨_, rfl, h⟩
  · split at h
    · rename_i e
      subst e
      exact Or.inr ⟨_, _, rfl, h⟩
    · cases h
  · cases h
theorem pm_bR_self {t i : Nat} {f0 : PH → Option PR} {f1 : Nat → PH → Option PR} {h : PH} : pm_bR (some (some (vr t i), h)) t f0 f1 = f1 i h := by
  unfold pm_bR
  dsimp only
  rw [if_pos rfl]
/-- what a call's answer came from -/
theorem pm_cl_some {f ih : PS → Option PR} {σ : PS} {q : PC} {r : PR} (h : pm_cl f ih σ q = some r) :
    ∃ (a : PR), f σ = some a ∧ (∀ v, a.1 = some v → v ≠ none) ∧ ih (q.1, q.2.1, q.2.2.1, a.1.toList ++ q.2.2.2, a.2) = some r ∧ ∀ (f2 ih2 : PS → Option PR), f2 σ = some a → ih2 (q.1, q.2.1, q.2.2.1, a.1.toList ++ q.2.2.2, a.2) = some r → pm_cl f2 ih2 σ q = some r := by
  unfold pm_cl at h
  split at h
  · rename_i e
    obtain ⟨h1, e1, e2⟩ := pm_bV_some h
    exact ⟨_, e1, (fun v z => by cases z), e2, fun f2 ih2 a b => by unfold pm_cl; rw [e]; (try dsimp only); rw [a]; exact b⟩
  · rename_i e
    obtain ⟨x, h1, e1, e2⟩ := pm_bL_some h
    exact ⟨_, e1, (fun v z => by cases z; simp), e2, fun f2 ih2 a b => by unfold pm_cl; rw [e]; (try dsimp only); rw [a]; exact b⟩
  · rename_i e
    rcases pm_bR_some h with ⟨h1, e1, e2⟩ | ⟨i, h1, e1, e2⟩
    · exact ⟨_, e1, (fun v z => by cases z; simp), e2, fun f2 ih2 a b => by unfold pm_cl; rw [e]; (try dsimp only); rw [a]; exact b⟩
    · exact ⟨_, e1, (fun v z => by cases z; simp), e2, fun f2 ih2 a b => by unfold pm_cl; rw [e]; (try dsimp only); rw [a, pm_bR_self]; exact b⟩
  iterate 4
    rename_i e
    obtain ⟨x, h1, e1, e2⟩ := pm_bI_some h
    exact ⟨_, e1, (fun v z => by cases z; simp), e2, fun f2 ih2 a b => by unfold pm_cl; rw [e]; (try dsimp only); rw [a]; exact b⟩
  · cases h
theorem pm_act_mono {f g : PS → Option PR} (hfg : ∀ σ r, f σ = some r → g σ = some r) {a : PA} {r : PR} (h : pm_act f a = some r) : pm_act g a = some r := by
  unfold pm_act at h ⊢
  split at h
  · cases h
  · exact h
  · exact hfg _ _ h
  · obtain ⟨a, e1, -, e2, k⟩ := pm_cl_some h
    exact k g g (hfg _ _ e1) (hfg _ _ e2)
theorem pm_ex_succ : ∀ (n : Nat) (σ : PS) (r : PR), pm_ex n σ = some r → pm_ex (n + 1) σ = some r
  | 0, _, _, h => by cases h
  | n + 1, σ, r, h => pm_act_mono (fun σ r h => pm_ex_succ n σ r h) (show pm_act (pm_ex n) (pm_pre σ) = some r from h)
theorem pm_ex_le {n : Nat} {σ : PS} {r : PR} (h : pm_ex n σ = some r) : ∀ k, pm_ex (n + k) σ = some r
  | 0 => h
  | k + 1 => pm_ex_succ _ _ _ (pm_ex_le h k)
theorem pm_ex_one {n m : Nat} {σ : PS} {r q : PR} (h : pm_ex n σ = some r) (h2 : pm_ex m σ = some q) : r = q := by
  have a := pm_ex_le h m
  have b := pm_ex_le h2 n
  rw [Nat.add_comm] at b
  exact Option.some.inj (a.symm.trans b)
noncomputable def pm_ev (σ : PS) : Option PR := @dite _ (∃ n r, pm_ex n σ = some r) (Classical.propDecidable _) (fun h => pm_ex h.choose σ) (fun _ => none)
theorem pm_ev_iff {σ : PS} {r : PR} : pm_ev σ = some r ↔ ∃ n, pm_ex n σ = some r := by
  unfold pm_ev
  by_cases h : ∃ n r, pm_ex n σ = some r
  · rw [dif_pos h]
    obtain ⟨q, hq⟩ := h.choose_spec
    constructor
    · intro e; exact ⟨_, e⟩
    · rintro ⟨n, e⟩
      rw [hq, pm_ex_one e hq]
  · rw [dif_neg h]
    constructor
    · intro e; cases e
    · rintro ⟨n, e⟩; exact absurd ⟨n, r, e⟩ h
theorem pm_opt_ext {α : Type} {a b : Option α} (h : ∀ r, a = some r ↔ b = some r) : a = b := by
  cases a with
  | none => cases b with
    | none => rfl
    | some y => exact absurd ((h y).mpr rfl) (by simp)
  | some z => exact ((h z).mp rfl).symm
theorem ev_step (σ : PS) : pm_ev σ = pm_act pm_ev (pm_pre σ) := by
  refine pm_opt_ext fun r => ?_
  constructor
  · intro h
    obtain ⟨n, hn⟩ := pm_ev_iff.mp h
    cases n with
    | zero => cases hn
    | succ n => exact pm_act_mono (fun σ r h => pm_ev_iff.mpr ⟨n, h⟩) (show pm_act (pm_ex n) (pm_pre σ) = some r from hn)
  · intro h
    rw [pm_ev_iff]
    cases e : pm_pre σ with
    | none => rw [e] at h; cases h
    | some a =>
      rw [e] at h
      rcases a with q | σ' | ⟨σ', k⟩
      · exact ⟨1, by show pm_act (pm_ex 0) (pm_pre σ) = some r; rw [e]; exact h⟩
      · obtain ⟨n, hn⟩ := pm_ev_iff.mp (show pm_ev σ' = some r from h)
        exact ⟨n + 1, by show pm_act (pm_ex n) (pm_pre σ) = some r; rw [e]; exact hn⟩
      · obtain ⟨a, e1, -, e2, kk⟩ := pm_cl_some (show pm_cl pm_ev pm_ev σ' k = some r from h)
        obtain ⟨n1, hn1⟩ := pm_ev_iff.mp e1
        obtain ⟨n2, hn2⟩ := pm_ev_iff.mp e2
        refine ⟨n1 + n2 + 1, ?_⟩
        show pm_act (pm_ex (n1 + n2)) (pm_pre σ) = some r
        rw [e]
        refine kk _ _ (pm_ex_le hn1 n2) ?_
        rw [Nat.add_comm n1 n2]
        exact pm_ex_le hn2 n1
/-- a step's result passes through any function -/
theorem pm_sw_nat {α β : Type} (φ : α → β) (k : Int → α) (x : Int32) : ∀ (l : List Int) (a d : Int), φ (pm_sw k x a l d) = pm_sw (fun o => φ (k o)) x a l d
  | [], _, _ => rfl
  | o :: l, a, d => by
    unfold pm_sw
    split
    · rfl
    · exact pm_sw_nat φ k x l (a + 1) d
theorem pm_ls_nat {α β : Type} (φ : α → β) (k : Int → α) (x : Int32) : ∀ (l : List (Int × Int)) (d : Int), φ (pm_ls k x l d) = pm_ls (fun o => φ (k o)) x l d
  | [], _ => rfl
  | (a, o) :: l, d => by
    unfold pm_ls
    split
    · rfl
    · exact pm_ls_nat φ k x l d
section NAT
variable {α β : Type} (φ : α → β) (z : α) (g : PS → α) (r : PR → α) (c : PS → PC → α)
set_option maxHeartbeats 4000000 in
theorem pm_op_nat (m pc nx : Nat) (ls st : List PV) (h : PH) (ins : Instr) : φ (pm_op z g r c m pc nx ls st h ins) = pm_op (φ z) (fun σ => φ (g σ)) (fun q => φ (r q)) (fun σ k => φ (c σ k)) m pc nx ls st h ins := by
  cases ins
  case tableswitch => unfold pm_op; dsimp only; (repeat' split) <;> first | rfl | exact pm_sw_nat φ _ _ _ _ _
  case lookupswitch => unfold pm_op; dsimp only; (repeat' split) <;> first | rfl | exact pm_ls_nat φ _ _ _ _
  case invokevirtual => unfold pm_op pm_inv pm_call; dsimp only; (repeat' split) <;> first | rfl | skip
  case invokestatic => unfold pm_op pm_inv pm_call; dsimp only; (repeat' split) <;> first | rfl | skip
  all_goals first | rfl | (unfold pm_op; dsimp only [pm_ild, pm_lld, pm_ald, pm_ist, pm_lst, pm_ast, pm_b1, pm_b2, pm_l2, pm_lsh, pm_if1, pm_if2, pm_ifz, pm_ifc, pm_get, pm_put, pm_gst, pm_iald, pm_bald, pm_lald, pm_aald, pm_iast, pm_bast, pm_last, pm_alen]; (repeat' split) <;> rfl)
theorem pm_st_nat (σ : PS) : φ (pm_st z g r c σ) = pm_st (φ z) (fun σ => φ (g σ)) (fun q => φ (r q)) (fun σ k => φ (c σ k)) σ := by
  obtain ⟨m, pc, ls, st, h⟩ := σ
  unfold pm_st
  dsimp only
  cases pm_fetch m pc with
  | none => rfl
  | some q => exact pm_op_nat φ z g r c m pc _ _ st h _
end NAT
theorem ev_st (σ : PS) : pm_ev σ = pm_st none pm_ev some (pm_cl pm_ev pm_ev) σ := by
  rw [ev_step]
  exact pm_st_nat (pm_act pm_ev) _ _ _ _ σ
theorem pm_mk_mk (kp : Option (List Bool)) (ls : List PV) : pm_mk kp (pm_mk kp ls) = pm_mk kp ls := by
  unfold pm_mk
  cases kp with
  | none => rfl
  | some bs =>
    dsimp only
    induction bs generalizing ls with
    | nil => rfl
    | cons b bs ih =>
      cases ls with
      | nil => rfl
      | cons v ls =>
        rw [List.zipWith_cons_cons, List.zipWith_cons_cons, ih]
        cases b <;> rfl
/-- the locals that are dead at a jump's target may be forgotten there -/
noncomputable def pm_evm (σ : PS) : Option PR := match σ with
  | (m, pc, ls, st, h) => match pm_fetch m pc with
    | some (_, _, kp) => pm_ev (m, pc, pm_mk kp ls, st, h)
    | none => pm_ev (m, pc, ls, st, h)
theorem pm_evm_eq (σ : PS) : pm_evm σ = pm_ev σ := by
  obtain ⟨m, pc, ls, st, h⟩ := σ
  unfold pm_evm
  dsimp only
  cases hf : pm_fetch m pc with
  | none => rfl
  | some q =>
    obtain ⟨i, n, kp⟩ := q
    dsimp only
    rw [ev_st (m, pc, pm_mk kp ls, st, h), ev_st (m, pc, ls, st, h)]
    unfold pm_st
    dsimp only
    rw [hf]
    dsimp only
    rw [pm_mk_mk]
/-- up to n steps, up to the program counters cs (a first step is always done); a call's answer is taken, the callee isn't gone into -/
noncomputable def pm_rc (cs : List Nat) : Nat → PS → Option PR
  | 0 => pm_ev
  | n + 1 => fun σ => match cs.elem σ.2.1 with
    | true => pm_evm σ
    | false => pm_st none (pm_rc cs n) some (pm_cl pm_ev (pm_rc cs n)) σ
theorem ev_rc0 (cs : List Nat) : ∀ (n : Nat), pm_rc cs n = pm_ev
  | 0 => rfl
  | n + 1 => by
    funext σ
    show (match cs.elem σ.2.1 with | true => pm_evm σ | false => pm_st none (pm_rc cs n) some (pm_cl pm_ev (pm_rc cs n)) σ) = pm_ev σ
    cases cs.elem σ.2.1 with
    | true => exact pm_evm_eq σ
    | false => rw [ev_rc0 cs n]; exact (ev_st σ).symm
theorem ev_rc (cs : List Nat) (n : Nat) (σ : PS) : pm_ev σ = pm_st none (pm_rc cs n) some (pm_cl pm_ev (pm_rc cs n)) σ := by
  rw [ev_rc0 cs n]
  exact ev_st σ
end
section
/-! THE WORLD: how a state of the simple machine lies in the heap. ad: the address of number i of tag t; cA: the class of an array; fm: a static of the JDK's that is a reference or null; ex: what the arrays hold that nobody writes. -/
def pm_mp (ad : Nat → Nat → Nat) (fm : Value) (v : PV) : Value := match v with
  | none => .null
  | some (.inl x) => .int x
  | some (.inr (.inl x)) => .long x
  | some (.inr (.inr none)) => .null
  | some (.inr (.inr (some (t, i)))) => if t = 67 then fm else .ref (ad t i)
def pm_fv (ad : Nat → Nat → Nat) (h : PH) (t i k : Nat) : Value := match pm_fty t k with
  | 0 => .int (h.1 t i k)
  | 2 => .int (h.1 t i k)
  | 1 => .long (h.2 t i k)
  | _ => pm_mp ad .null (pm_rf t k i)
def pm_aad (ad : Nat → Nat → Nat) (v : PV) : Option Nat := match v with
  | some (.inr (.inr (some (t, i)))) => some (ad t i)
  | _ => none
def pm_cell (ad : Nat → Nat → Nat) (cA : Nat → Nat → ClassId) (h : PH) (t i : Nat) : va_E :=
  if t < 9 then .inr (t, (List.range (pm_nf t)).map (pm_fv ad h t i)) else
    .inl (cA t i, (pm_nth pm_at (t - 10) (9, 0)).2, match pm_ak t with
      | 1 => .inr (.inl (h.2 t i))
      | 3 => .inr (.inr (.inr (.inr (fun j => pm_aad ad (pm_aref t i j)))))
      | _ => .inl (h.1 t i))
def pm_ws (ad : Nat → Nat → Nat) (cA : Nat → Nat → ClassId) (h : PH) : va_W := pm_obs.map fun q => (ad q.1 q.2, pm_cell ad cA h q.1 q.2)
def pm_aty (t : Nat) : FieldType := match pm_ak t with
  | 0 => .int
  | 1 => .long
  | 2 => .boolean
  | _ => .object (if t = 28 then "IllLight$Coast" else if t = 29 then "IllLight$Night" else if t = 30 then "IllLight$Log" else "IllLight$Told")
def pm_tys (cA : Nat → Nat → ClassId) : List (ClassId × FieldType) := (pm_obs.filter fun q => decide (10 ≤ q.1)).map fun q => (cA q.1 q.2, pm_aty q.1)
theorem pm_ws_at {ad : Nat → Nat → Nat} {cA : Nat → Nat → ClassId} {h : PH} {t i : Nat} (hq : (t, i) ∈ pm_obs) : ∃ q0 : Nat, pm_obs[q0]? = some (t, i) ∧ (pm_ws ad cA h)[q0]? = some (ad t i, pm_cell ad cA h t i) := by
  obtain ⟨q0, e⟩ := List.mem_iff_getElem?.mp hq
  refine ⟨q0, e, ?_⟩
  unfold pm_ws
  rw [List.getElem?_map, e]
  rfl
theorem pm_tys_at {cA : Nat → Nat → ClassId} {t i : Nat} (hq : (t, i) ∈ pm_obs) (ht : 10 ≤ t) : ∃ t0 : Nat, (pm_tys cA)[t0]? = some (cA t i, pm_aty t) := by
  have hm : (t, i) ∈ pm_obs.filter fun q => decide (10 ≤ q.1) := List.mem_filter.mpr ⟨hq, by simpa using ht⟩
  obtain ⟨t0, e⟩ := List.mem_iff_getElem?.mp hm
  refine ⟨t0, ?_⟩
  unfold pm_tys
  rw [List.getElem?_map, e]
  rfl
/-- one object changed: the list of cells with one cell set -/
theorem pm_ws_set {ad : Nat → Nat → Nat} {cA : Nat → Nat → ClassId} {h h' : PH} {t i q0 : Nat} (hq : pm_obs[q0]? = some (t, i)) (he : ∀ q ∈ pm_obs, q ≠ (t, i) → pm_cell ad cA h' q.1 q.2 = pm_cell ad cA h q.1 q.2) {v : va_E} (hv : pm_cell ad cA h' t i = v) : (pm_ws ad cA h).set q0 (ad t i, v) = pm_ws ad cA h' := by
  refine List.ext_getElem? fun j => ?_
  unfold pm_ws
  rw [List.getElem?_set]
  by_cases hj : q0 = j
  · subst hj
    rw [if_pos rfl, List.getElem?_map, hq]
    have hl : q0 < (pm_obs.map fun q => (ad q.1 q.2, pm_cell ad cA h q.1 q.2)).length := by
      rw [List.length_map]
      exact (List.getElem?_eq_some_iff.mp hq).1
    rw [if_pos hl, ← hv]
    rfl
  · rw [if_neg hj, List.getElem?_map, List.getElem?_map]
    cases e : pm_obs[j]? with
    | none => rfl
    | some q =>
      show some (ad q.1 q.2, pm_cell ad cA h q.1 q.2) = some (ad q.1 q.2, pm_cell ad cA h' q.1 q.2)
      rw [he q (List.mem_of_getElem? e) (fun e2 => hj (tf_nod q0 j (t, i) hq (by rw [e, e2])))]
theorem pm_cell_sI {ad : Nat → Nat → Nat} {cA : Nat → Nat → ClassId} {h : PH} {t i k : Nat} {x : Int32} : ∀ q ∈ pm_obs, q ≠ (t, i) → pm_cell ad cA (pm_sI h t i k x) q.1 q.2 = pm_cell ad cA h q.1 q.2 := by
  intro q _ hne
  have hn : ∀ c, (pm_sI h t i k x).1 q.1 q.2 c = h.1 q.1 q.2 c := fun c => by
    rw [pm_sI_at]
    exact if_neg (fun e => hne (Prod.ext e.1 e.2.1))
  have hf : (pm_sI h t i k x).1 q.1 q.2 = h.1 q.1 q.2 := funext hn
  have hg : (pm_sI h t i k x).2 = h.2 := rfl
  unfold pm_cell pm_fv
  simp only [hn, hf, hg]
theorem pm_cell_sL {ad : Nat → Nat → Nat} {cA : Nat → Nat → ClassId} {h : PH} {t i k : Nat} {x : Int64} : ∀ q ∈ pm_obs, q ≠ (t, i) → pm_cell ad cA (pm_sL h t i k x) q.1 q.2 = pm_cell ad cA h q.1 q.2 := by
  intro q _ hne
  have hn : ∀ c, (pm_sL h t i k x).2 q.1 q.2 c = h.2 q.1 q.2 c := fun c => by
    rw [pm_sL_at]
    exact if_neg (fun e => hne (Prod.ext e.1 e.2.1))
  have hf : (pm_sL h t i k x).2 q.1 q.2 = h.2 q.1 q.2 := funext hn
  have hg : (pm_sL h t i k x).1 = h.1 := rfl
  unfold pm_cell pm_fv
  simp only [hn, hf, hg]
theorem pm_cell_cp {ad : Nat → Nat → Nat} {cA : Nat → Nat → ClassId} {h : PH} {t i sp t' i' dp n : Nat} : ∀ q ∈ pm_obs, q ≠ (t', i') → pm_cell ad cA (pm_cp h t i sp t' i' dp n) q.1 q.2 = pm_cell ad cA h q.1 q.2 := by
  intro q _ hne
  have hn : ∀ c, (pm_cp h t i sp t' i' dp n).1 q.1 q.2 c = h.1 q.1 q.2 c := fun c => by
    rw [pm_cp_at]
    exact if_neg (fun e => hne (Prod.ext e.1 e.2.1))
  have hf : (pm_cp h t i sp t' i' dp n).1 q.1 q.2 = h.1 q.1 q.2 := funext hn
  have hg : (pm_cp h t i sp t' i' dp n).2 = h.2 := rfl
  unfold pm_cell pm_fv
  simp only [hn, hf, hg]
/-- the locals of a frame -/
def pm_LR (ad : Nat → Nat → Nat) (fm : Value) (nL : Nat) (ls : List PV) (la : Array Slot) : Prop := la.size = nL ∧ lv_wf la ∧ ls.length = nL ∧ ∀ (i : Nat) (v : PV), ls[i]? = some v → v ≠ none → la[i]? = some (.val (pm_mp ad fm v))
/-- as the kit's list of locals -/
def pm_lv (ad : Nat → Nat → Nat) (fm : Value) (ls : List PV) : List (Nat × Value) := (List.range ls.length).filterMap fun i => match ls[i]? with
  | some (some v) => some (i, pm_mp ad fm (some v))
  | _ => none
theorem pm_lv_mem {ad : Nat → Nat → Nat} {fm : Value} {ls : List PV} {q : Nat × Value} : q ∈ pm_lv ad fm ls ↔ ∃ v, ls[q.1]? = some (some v) ∧ q.2 = pm_mp ad fm (some v) := by
  unfold pm_lv
  rw [List.mem_filterMap]
  constructor
  · rintro ⟨i, hi, e⟩
    split at e
    · rename_i v hv
      have e := Option.some.inj e
      subst e
      exact ⟨v, hv, rfl⟩
    · cases e
  · rintro ⟨v, hv, e⟩
    refine ⟨q.1, List.mem_range.mpr (List.getElem?_eq_some_iff.mp hv).1, ?_⟩
    rw [hv]
    show some (q.1, pm_mp ad fm (some v)) = some q
    rw [← e]
theorem pm_LR.has {ad : Nat → Nat → Nat} {fm : Value} {nL : Nat} {ls : List PV} {la : Array Slot} (h : pm_LR ad fm nL ls la) : lv_has la nL (pm_lv ad fm ls) := by
  refine ⟨h.1, h.2.1, fun q hq => ?_⟩
  obtain ⟨v, hv, e⟩ := pm_lv_mem.mp hq
  rw [h.2.2.2 q.1 (some v) hv (by simp), e]
theorem pm_LR.of {ad : Nat → Nat → Nat} {fm : Value} {nL : Nat} {ls : List PV} {la : Array Slot} {lv : List (Nat × Value)} (hl : ls.length = nL) (h : lv_has la nL lv) (hs : ∀ q ∈ pm_lv ad fm ls, q ∈ lv) : pm_LR ad fm nL ls la := by
  refine ⟨h.1, h.2.1, hl, fun i v hv hn => ?_⟩
  cases v with
  | none => exact absurd rfl hn
  | some v => exact h.2.2 (i, pm_mp ad fm (some v)) (hs _ (pm_lv_mem.mpr ⟨v, hv, rfl⟩))
theorem pm_cat_mp {ad : Nat → Nat → Nat} {fm : Value} (hfm : fm = .null ∨ ∃ a, fm = .ref a) (v : PV) : (pm_mp ad fm v).category = pm_cat v := by
  unfold pm_mp pm_cat
  split
  · rfl
  · rfl
  · rfl
  · rfl
  · split
    · rcases hfm with e | ⟨a, e⟩ <;> rw [e] <;> rfl
    · rfl
end
section
/-! SOUNDNESS: what the simple machine does, the machine does. -/
/-- what the world outside the system is: the script, three static tables, two statics of the JDK's, the texts -/
def pm_X (ad : Nat → Nat → Nat) (fm : Value) (A : Nat → Prop) (ex : Nat → Nat → Nat → Int32) (U : State) : Prop :=
  (fm = .null ∨ ∃ a, fm = .ref a) ∧
  (va_X (ad 65 0) (ex 66 0 0).toNatClampNeg (ex 65 0) U U.heap ∧ ad 65 0 < U.heap.size ∧ ¬ A (ad 65 0)) ∧
  (va_Z "IllLight$Reader" "WORDS_OF_SORT" "[I" (.ref (ad 62 0)) A U U.heap ∧ va_T .int (ad 62 0) 4 (fun k => .int (ex 62 0 k)) A U U.heap) ∧
  (va_Z "IllLight$Reader" "NUMBERS_OF_WORD" "[I" (.ref (ad 63 0)) A U U.heap ∧ va_T .int (ad 63 0) 21 (fun k => .int (ex 63 0 k)) A U U.heap) ∧
  (va_Z "IllLight$Reader" "MOST" "[I" (.ref (ad 64 0)) A U U.heap ∧ va_T .int (ad 64 0) 84 (fun k => .int (ex 64 0 k)) A U U.heap) ∧
  va_Z "java/lang/String" "COMPACT_STRINGS" "Z" (.int 1) A U U.heap ∧
  va_Z "jdk/internal/util/Preconditions" "SIOOBE_FORMATTER" "Ljava/util/function/BiFunction;" fm A U U.heap ∧
  (∀ i, i < 21 → va_O "java/lang/String" (ad 60 i) A U U.heap ∧ va_OF "java/lang/String" "coder" "B" (.int 0) (ad 60 i) A U U.heap ∧ va_OF "java/lang/String" "value" "[B" (.ref (ad 61 i)) (ad 60 i) A U U.heap ∧ va_T .byte (ad 61 i) (pm_nth pm_SL i 0) (fun j => .int (ex 61 i j)) A U U.heap) ∧
  ∀ i, i < 21 → vk_R "IllLight$Reader" (pm_ST i).1 (pm_ST i).2 (ad 60 i) U
theorem pm_X.go {ad : Nat → Nat → Nat} {fm : Value} {A : Nat → Prop} {ex : Nat → Nat → Nat → Int32} {s U : State} {H : Heap} {locs : List Loc} (h : pm_X ad fm A ex s) (hS : va_S A s.heap H locs) (hU : U.heap = H) (hW : s.WarmedH U.vm) : pm_X ad fm A ex U := by
  obtain ⟨h1, ⟨h2, h3, h4⟩, ⟨h5, h6⟩, ⟨h7, h8⟩, ⟨h9, h10⟩, h11, h12, h13, h14⟩ := h
  subst hU
  have ha := hW.alike
  exact ⟨h1, ⟨(h2.kept (hS.2.1 _ h3 h4)).moved ha, Nat.lt_of_lt_of_le h3 hS.1, h4⟩, ⟨(h5.kept hS.2.1).moved ha, (h6.kept hS.2.1).moved ha⟩, ⟨(h7.kept hS.2.1).moved ha, (h8.kept hS.2.1).moved ha⟩, ⟨(h9.kept hS.2.1).moved ha, (h10.kept hS.2.1).moved ha⟩, (h11.kept hS.2.1).moved ha, (h12.kept hS.2.1).moved ha, fun i hi => ⟨((h13 i hi).1.kept hS.2.1).moved ha, ((h13 i hi).2.1.kept hS.2.1).moved ha, ((h13 i hi).2.2.1.kept hS.2.1).moved ha, ((h13 i hi).2.2.2.kept hS.2.1).moved ha⟩, fun i hi => (h14 i hi).warm hW⟩
theorem pm_X.blind {ad : Nat → Nat → Nat} {fm : Value} {A : Nat → Prop} {ex : Nat → Nat → Nat → Int32} {U V : State} (h : pm_X ad fm A ex U) (hh : V.heap = U.heap) (hv : V.vm = U.vm) : pm_X ad fm A ex V := by
  obtain ⟨h1, ⟨h2, h3, h4⟩, ⟨h5, h6⟩, ⟨h7, h8⟩, ⟨h9, h10⟩, h11, h12, h13, h14⟩ := h
  have ha : U.vm.Alike V.vm := by rw [hv]; exact Vm.Alike.refl U.vm
  unfold pm_X
  rw [hh]
  exact ⟨h1, ⟨h2.moved ha, h3, h4⟩, ⟨h5.moved ha, h6.moved ha⟩, ⟨h7.moved ha, h8.moved ha⟩, ⟨h9.moved ha, h10.moved ha⟩, h11.moved ha, h12.moved ha, fun i hi => ⟨(h13 i hi).1.moved ha, (h13 i hi).2.1.moved ha, (h13 i hi).2.2.1.moved ha, (h13 i hi).2.2.2.moved ha⟩, fun i hi => (h14 i hi).same hv⟩
theorem pm_s1_lv {ad : Nat → Nat → Nat} {fm : Value} (hfm : fm = .null ∨ ∃ a, fm = .ref a) {ls : List PV} {i : Nat} {v : PV} {q : Nat × Value} (hq : q ∈ pm_lv ad fm (pm_s1 ls i v)) : q ∈ (i, pm_mp ad fm v) :: (pm_lv ad fm ls).filter (fun q => !(q.1 == i) && !(q.1 + 1 == i && q.2.category == 2)) := by
  obtain ⟨w, hw, e⟩ := pm_lv_mem.mp hq
  unfold pm_s1 at hw
  rw [List.getElem?_set] at hw
  by_cases hi : i = q.1
  · rw [if_pos hi] at hw
    split at hw
    · have hw := Option.some.inj hw
      refine List.mem_cons.mpr (Or.inl (Prod.ext hi.symm ?_))
      rw [e, hw]
    · cases hw
  · rw [if_neg hi] at hw
    refine List.mem_cons.mpr (Or.inr (List.mem_filter.mpr ?_))
    cases i with
    | zero =>
      refine ⟨pm_lv_mem.mpr ⟨w, hw, e⟩, ?_⟩
      have : ¬ q.1 = 0 := fun z => hi z.symm
      simp [this]
    | succ j =>
      unfold pm_kl at hw
      dsimp only at hw
      by_cases hj : q.1 = j
      · have hw2 : ls[j]? = some (some w) ∧ pm_cat (some w) = 1 := by
          split at hw
          · rename_i y hy
            rw [List.getElem?_set, hj, if_pos rfl] at hw
            split at hw
            · cases hw
            · cases hw
          · rename_i hne
            rw [hj] at hw
            refine ⟨hw, ?_⟩
            rcases w with x | x | x
            · rfl
            · exact absurd hw (hne x)
            · rfl
        refine ⟨pm_lv_mem.mpr ⟨w, by rw [hj]; exact hw2.1, e⟩, ?_⟩
        have hc : q.2.category = 1 := by rw [e, pm_cat_mp hfm]; exact hw2.2
        rw [hc, hj]
        simp
      · have hw2 : ls[q.1]? = some (some w) := by
          split at hw
          · rw [List.getElem?_set, if_neg (fun z => hj z.symm)] at hw
            exact hw
          · exact hw
        refine ⟨pm_lv_mem.mpr ⟨w, hw2, e⟩, ?_⟩
        have h1 : ¬ q.1 = j + 1 := fun z => hi z.symm
        simp [h1, hj]
theorem pm_s2_lv {ad : Nat → Nat → Nat} {fm : Value} (hfm : fm = .null ∨ ∃ a, fm = .ref a) {ls : List PV} {i : Nat} {v : PV} {q : Nat × Value} (hq : q ∈ pm_lv ad fm (pm_s2 ls i v)) : q ∈ (i, pm_mp ad fm v) :: (pm_lv ad fm ls).filter (fun q => !(q.1 == i) && (!(q.1 == i + 1) && !(q.1 + 1 == i && q.2.category == 2))) := by
  obtain ⟨w, hw, e⟩ := pm_lv_mem.mp hq
  have h1 : ¬ q.1 = i + 1 := by
    intro z
    unfold pm_s2 at hw
    rw [List.getElem?_set, z, if_pos rfl] at hw
    split at hw
    · cases hw
    · cases hw
  have hq1 : q ∈ pm_lv ad fm (pm_s1 ls i v) := by
    refine pm_lv_mem.mpr ⟨w, ?_, e⟩
    unfold pm_s2 at hw
    rw [List.getElem?_set, if_neg (fun z => h1 z.symm)] at hw
    exact hw
  rcases List.mem_cons.mp (pm_s1_lv hfm hq1) with h2 | h2
  · exact List.mem_cons.mpr (Or.inl h2)
  · obtain ⟨h3, h4⟩ := List.mem_filter.mp h2
    refine List.mem_cons.mpr (Or.inr (List.mem_filter.mpr ⟨h3, ?_⟩))
    simp only [Bool.and_eq_true] at h4 ⊢
    exact ⟨h4.1, by simpa using h1, h4.2⟩
theorem pm_kl_len (ls : List PV) (i : Nat) : (pm_kl ls i).length = ls.length := by
  unfold pm_kl
  split
  · rfl
  · split
    · simp
    · rfl
theorem pm_s1_len (ls : List PV) (i : Nat) (v : PV) : (pm_s1 ls i v).length = ls.length := by unfold pm_s1; rw [List.length_set, pm_kl_len]
theorem pm_s2_len (ls : List PV) (i : Nat) (v : PV) : (pm_s2 ls i v).length = ls.length := by unfold pm_s2; rw [List.length_set, List.length_set, pm_kl_len]
theorem pm_kl_ok {P : PV → Prop} {ls : List PV} (h : ∀ v ∈ ls, P v) (hn : P none) (i : Nat) : ∀ v ∈ pm_kl ls i, P v := by
  intro v hv
  unfold pm_kl at hv
  split at hv
  · exact h v hv
  · split at hv
    · rcases List.mem_or_eq_of_mem_set hv with q | q
      · exact h v q
      · rw [q]; exact hn
    · exact h v hv
theorem pm_s1_ok {P : PV → Prop} {ls : List PV} (h : ∀ v ∈ ls, P v) (hn : P none) {w : PV} (hw : P w) (i : Nat) : ∀ v ∈ pm_s1 ls i w, P v := by
  intro v hv
  rcases List.mem_or_eq_of_mem_set hv with q | q
  · exact pm_kl_ok h hn i v q
  · rw [q]; exact hw
theorem pm_s2_ok {P : PV → Prop} {ls : List PV} (h : ∀ v ∈ ls, P v) (hn : P none) {w : PV} (hw : P w) (i : Nat) : ∀ v ∈ pm_s2 ls i w, P v := by
  intro v hv
  rcases List.mem_or_eq_of_mem_set hv with q | q
  · exact pm_s1_ok h hn hw i v q
  · rw [q]; exact hn
theorem pm_mk_get {kp : Option (List Bool)} {ls : List PV} {i : Nat} {v : PV} (h : (pm_mk kp ls)[i]? = some v) (hn : v ≠ none) : ls[i]? = some v := by
  unfold pm_mk at h
  split at h
  · exact h
  · rename_i bs
    rw [List.getElem?_zipWith] at h
    split at h
    · rename_i b w h1 h2
      have h := Option.some.inj h
      split at h
      · rw [h2, h]
      · exact absurd h.symm hn
    · cases h
theorem pm_mk_ok {P : PV → Prop} {ls : List PV} (h : ∀ v ∈ ls, P v) (hn : P none) (kp : Option (List Bool)) : ∀ v ∈ pm_mk kp ls, P v := by
  intro v hv
  by_cases e : v = none
  · rw [e]; exact hn
  · obtain ⟨i, hi⟩ := List.mem_iff_getElem?.mp hv
    exact h v (List.mem_of_getElem? (pm_mk_get hi e))
end
section
section PMS
variable {p : Program} {l : Launch} {e : Env} {R : Room} {s : State} {mm : MethodId} {args : Array Value} {below : List Frame} {meth : Method} {c : Code} {cells slots : Nat} {Q : State → Prop}
variable {D : va_G} {cA : Nat → Nat → ClassId} {ad : Nat → Nat → Nat} {fm : Value} {A : Nat → Prop} {ex : Nat → Nat → Nat → Int32}
/-- a frame of method m -/
def pm_Fr (p : Program) (R : Room) (s : State) (mm : MethodId) (args : Array Value) (c : Code) (cells slots : Nat) (D : va_G) (cA : Nat → Nat → ClassId) (ad : Nat → Nat → Nat) (fm : Value) (A : Nat → Prop) (ex : Nat → Nat → Nat → Int32) (m : Nat) : Prop :=
  p.tables.exec = Jvm.exec ∧ c.code = pm_by m ∧ c.maxLocals = pm_mxl m ∧ s.vm.findClass (pm_on m) = some mm.cls ∧ (∀ w ∈ pm_tb, w.before args s = true) ∧ va_K D vwCl (pm_tys cA) s ∧ pm_X ad fm A ex s ∧ pm_fr m ≤ R.frames ∧ pm_lo m ≤ R.locals ∧ cells ≤ R.cells ∧ slots ≤ R.slots
def pm_HR (s : State) (D : va_G) (cA : Nat → Nat → ClassId) (ad : Nat → Nat → Nat) (A : Nat → Prop) (ex : Nat → Nat → Nat → Int32) (h : PH) (H : Heap) (locs : List Loc) : Prop := va_P D vwCl (pm_ws ad cA h) H ∧ va_D A (pm_ws ad cA h) ∧ va_S A s.heap H locs ∧ ∀ t, 60 ≤ t → h.1 t = ex t
def pm_At (p : Program) (l : Launch) (e : Env) (R : Room) (s : State) (mm : MethodId) (args : Array Value) (below : List Frame) (meth : Method) (c : Code) (cells slots : Nat) (Q : State → Prop) (D : va_G) (cA : Nat → Nat → ClassId) (ad : Nat → Nat → Nat) (fm : Value) (A : Nat → Prop) (ex : Nat → Nat → Nat → Int32) (σ : PS) : Prop :=
  ∀ (H : Heap) (locs : List Loc) (la : Array Slot), pm_HR s D cA ad A ex σ.2.2.2.2 H locs → pm_LR ad fm (pm_mxl σ.1) σ.2.2.1 la → W p l e R s mm args below meth c H locs cells slots Q (F0 mm σ.2.1 la (σ.2.2.2.1.map (pm_mp ad fm)))
def pm_Ok (σ : PS) : Prop := (∀ v ∈ σ.2.2.1, pm_okv v) ∧ ∀ v ∈ σ.2.2.2.1, v ≠ none ∧ pm_okv v
theorem pm_okv_i (x : Int32) : pm_okv (vi x) := trivial
theorem pm_okv_l (x : Int64) : pm_okv (vl x) := trivial
theorem pm_okv_0 : pm_okv none := trivial
theorem ok_push {st : List PV} {v : PV} (h : ∀ v ∈ st, v ≠ none ∧ pm_okv v) (h1 : v ≠ none) (h2 : pm_okv v) : ∀ w ∈ v :: st, w ≠ none ∧ pm_okv w := fun w hw => (List.mem_cons.mp hw).elim (fun e => by rw [e]; exact ⟨h1, h2⟩) (h w)
theorem ok_tl {st : List PV} {v : PV} (h : ∀ w ∈ v :: st, w ≠ none ∧ pm_okv w) : ∀ w ∈ st, w ≠ none ∧ pm_okv w := fun w hw => h w (List.mem_cons_of_mem _ hw)
theorem ok_hd {st : List PV} {v : PV} (h : ∀ w ∈ v :: st, w ≠ none ∧ pm_okv w) : pm_okv v := (h v List.mem_cons_self).2
variable {m pc nx : Nat} {ls st : List PV} {h : PH} {G : PS → Prop}
theorem sd_ild {i : Nat} (hop : pm_ild False G ls i m nx st h) (hG : ∀ σ, G σ → σ.1 = m → pm_Ok σ → pm_At p l e R s mm args below meth c cells slots Q D cA ad fm A ex σ) (ok : pm_Ok (m, pc, ls, st, h))
    (row : ∀ (x : Int32) (H : Heap) (locs : List Loc) (la : Array Slot), la[i]? = some (.val (.int x)) → W p l e R s mm args below meth c H locs cells slots Q (F0 mm nx la (.int x :: st.map (pm_mp ad fm))) → W p l e R s mm args below meth c H locs cells slots Q (F0 mm pc la (st.map (pm_mp ad fm)))) :
    pm_At p l e R s mm args below meth c cells slots Q D cA ad fm A ex (m, pc, ls, st, h) := by
  unfold pm_ild at hop
  split at hop
  · rename_i x hx
    intro H locs la hH hL
    exact row x H locs la (hL.2.2.2 i _ hx (by simp)) (hG _ hop rfl ⟨ok.1, ok_push ok.2 (by simp) trivial⟩ H locs la hH hL)
  · exact hop.elim
theorem sd_lld {i : Nat} (hop : pm_lld False G ls i m nx st h) (hG : ∀ σ, G σ → σ.1 = m → pm_Ok σ → pm_At p l e R s mm args below meth c cells slots Q D cA ad fm A ex σ) (ok : pm_Ok (m, pc, ls, st, h))
    (row : ∀ (x : Int64) (H : Heap) (locs : List Loc) (la : Array Slot), la[i]? = some (.val (.long x)) → W p l e R s mm args below meth c H locs cells slots Q (F0 mm nx la (.long x :: st.map (pm_mp ad fm))) → W p l e R s mm args below meth c H locs cells slots Q (F0 mm pc la (st.map (pm_mp ad fm)))) :
    pm_At p l e R s mm args below meth c cells slots Q D cA ad fm A ex (m, pc, ls, st, h) := by
  unfold pm_lld at hop
  split at hop
  · rename_i x hx
    intro H locs la hH hL
    exact row x H locs la (hL.2.2.2 i _ hx (by simp)) (hG _ hop rfl ⟨ok.1, ok_push ok.2 (by simp) trivial⟩ H locs la hH hL)
  · exact hop.elim
theorem pm_mp_r (hfm : fm = .null ∨ ∃ a, fm = .ref a) (r : Option (Nat × Nat)) : pm_mp ad fm (some (.inr (.inr r))) = .null ∨ ∃ a, pm_mp ad fm (some (.inr (.inr r))) = .ref a := by
  cases r with
  | none => exact Or.inl rfl
  | some q =>
    show (if q.1 = 67 then fm else .ref (ad q.1 q.2)) = .null ∨ ∃ a, (if q.1 = 67 then fm else .ref (ad q.1 q.2)) = .ref a
    split
    · exact hfm
    · exact Or.inr ⟨_, rfl⟩
theorem sd_ald {i : Nat} (hfm : fm = .null ∨ ∃ a, fm = .ref a) (hop : pm_ald False G ls i m nx st h) (hG : ∀ σ, G σ → σ.1 = m → pm_Ok σ → pm_At p l e R s mm args below meth c cells slots Q D cA ad fm A ex σ) (ok : pm_Ok (m, pc, ls, st, h))
    (row : ∀ (a : Nat) (H : Heap) (locs : List Loc) (la : Array Slot), la[i]? = some (.val (.ref a)) → W p l e R s mm args below meth c H locs cells slots Q (F0 mm nx la (.ref a :: st.map (pm_mp ad fm))) → W p l e R s mm args below meth c H locs cells slots Q (F0 mm pc la (st.map (pm_mp ad fm))))
    (rowN : ∀ (H : Heap) (locs : List Loc) (la : Array Slot), la[i]? = some (.val .null) → W p l e R s mm args below meth c H locs cells slots Q (F0 mm nx la (.null :: st.map (pm_mp ad fm))) → W p l e R s mm args below meth c H locs cells slots Q (F0 mm pc la (st.map (pm_mp ad fm)))) :
    pm_At p l e R s mm args below meth c cells slots Q D cA ad fm A ex (m, pc, ls, st, h) := by
  unfold pm_ald at hop
  split at hop
  · rename_i x hx
    intro H locs la hH hL
    have h1 := hL.2.2.2 i _ hx (by simp)
    have h2 := hG _ hop rfl ⟨ok.1, ok_push ok.2 (by simp) (ok.1 _ (List.mem_of_getElem? hx))⟩ H locs la hH hL
    rcases pm_mp_r (ad := ad) hfm x with e1 | ⟨a, e1⟩
    · rw [e1] at h1
      refine rowN H locs la h1 ?_
      rw [List.map_cons, e1] at h2
      exact h2
    · rw [e1] at h1
      refine row a H locs la h1 ?_
      rw [List.map_cons, e1] at h2
      exact h2
  · exact hop.elim
theorem sd_ist {i : Nat} (hfm : fm = .null ∨ ∃ a, fm = .ref a) (hop : pm_ist False G ls i m nx st h) (hG : ∀ σ, G σ → σ.1 = m → pm_Ok σ → pm_At p l e R s mm args below meth c cells slots Q D cA ad fm A ex σ) (ok : pm_Ok (m, pc, ls, st, h))
    (row : ∀ (x : Int32) (rest : List Value) (H : Heap) (locs : List Loc) (la : Array Slot) (lv lv' : List (Nat × Value)), lv_has la (pm_mxl m) lv → i < pm_mxl m → (i, Value.int x) :: lv.filter (fun q => !(q.1 == i) && !(q.1 + 1 == i && q.2.category == 2)) = lv' → (∀ la' : Array Slot, lv_has la' (pm_mxl m) lv' → W p l e R s mm args below meth c H locs cells slots Q (F0 mm nx la' rest)) → W p l e R s mm args below meth c H locs cells slots Q (F0 mm pc la (.int x :: rest))) :
    pm_At p l e R s mm args below meth c cells slots Q D cA ad fm A ex (m, pc, ls, st, h) := by
  unfold pm_ist at hop
  split at hop
  · rename_i x st'
    split at hop
    · rename_i hi
      intro H locs la hH hL
      have hi' : i < pm_mxl m := by have := hL.2.2.1; simp only at this hi; omega
      refine row x _ H locs la _ _ hL.has hi' rfl fun la' hl' => ?_
      exact hG _ hop rfl ⟨pm_s1_ok ok.1 trivial (pm_okv_i x) i, ok_tl ok.2⟩ H locs la' hH (pm_LR.of (by show (pm_s1 ls i (vi x)).length = pm_mxl m; rw [pm_s1_len]; exact hL.2.2.1) hl' (fun q hq => pm_s1_lv hfm hq))
    · exact hop.elim
  · exact hop.elim
theorem sd_lst {i : Nat} (hfm : fm = .null ∨ ∃ a, fm = .ref a) (hop : pm_lst False G ls i m nx st h) (hG : ∀ σ, G σ → σ.1 = m → pm_Ok σ → pm_At p l e R s mm args below meth c cells slots Q D cA ad fm A ex σ) (ok : pm_Ok (m, pc, ls, st, h))
    (row : ∀ (x : Int64) (rest : List Value) (H : Heap) (locs : List Loc) (la : Array Slot) (lv lv' : List (Nat × Value)), lv_has la (pm_mxl m) lv → i + 1 < pm_mxl m → (i, Value.long x) :: lv.filter (fun q => !(q.1 == i) && (!(q.1 == i + 1) && !(q.1 + 1 == i && q.2.category == 2))) = lv' → (∀ la' : Array Slot, lv_has la' (pm_mxl m) lv' → W p l e R s mm args below meth c H locs cells slots Q (F0 mm nx la' rest)) → W p l e R s mm args below meth c H locs cells slots Q (F0 mm pc la (.long x :: rest))) :
    pm_At p l e R s mm args below meth c cells slots Q D cA ad fm A ex (m, pc, ls, st, h) := by
  unfold pm_lst at hop
  split at hop
  · rename_i x st'
    split at hop
    · rename_i hi
      intro H locs la hH hL
      have hi' : i + 1 < pm_mxl m := by have := hL.2.2.1; simp only at this hi; omega
      refine row x _ H locs la _ _ hL.has hi' rfl fun la' hl' => ?_
      exact hG _ hop rfl ⟨pm_s2_ok ok.1 trivial (pm_okv_l x) i, ok_tl ok.2⟩ H locs la' hH (pm_LR.of (by show (pm_s2 ls i (vl x)).length = pm_mxl m; rw [pm_s2_len]; exact hL.2.2.1) hl' (fun q hq => pm_s2_lv hfm hq))
    · exact hop.elim
  · exact hop.elim
theorem sd_ast {i : Nat} (hfm : fm = .null ∨ ∃ a, fm = .ref a) (hop : pm_ast False G ls i m nx st h) (hG : ∀ σ, G σ → σ.1 = m → pm_Ok σ → pm_At p l e R s mm args below meth c cells slots Q D cA ad fm A ex σ) (ok : pm_Ok (m, pc, ls, st, h))
    (row : ∀ (a : Nat) (rest : List Value) (H : Heap) (locs : List Loc) (la : Array Slot) (lv lv' : List (Nat × Value)), lv_has la (pm_mxl m) lv → i < pm_mxl m → (i, Value.ref a) :: lv.filter (fun q => !(q.1 == i) && !(q.1 + 1 == i && q.2.category == 2)) = lv' → (∀ la' : Array Slot, lv_has la' (pm_mxl m) lv' → W p l e R s mm args below meth c H locs cells slots Q (F0 mm nx la' rest)) → W p l e R s mm args below meth c H locs cells slots Q (F0 mm pc la (.ref a :: rest)))
    (rowN : ∀ (rest : List Value) (H : Heap) (locs : List Loc) (la : Array Slot) (lv lv' : List (Nat × Value)), lv_has la (pm_mxl m) lv → i < pm_mxl m → (i, Value.null) :: lv.filter (fun q => !(q.1 == i) && !(q.1 + 1 == i && q.2.category == 2)) = lv' → (∀ la' : Array Slot, lv_has la' (pm_mxl m) lv' → W p l e R s mm args below meth c H locs cells slots Q (F0 mm nx la' rest)) → W p l e R s mm args below meth c H locs cells slots Q (F0 mm pc la (.null :: rest))) :
    pm_At p l e R s mm args below meth c cells slots Q D cA ad fm A ex (m, pc, ls, st, h) := by
  unfold pm_ast at hop
  split at hop
  · rename_i x st'
    split at hop
    · rename_i hi
      intro H locs la hH hL
      have hi' : i < pm_mxl m := by have := hL.2.2.1; simp only at this hi; omega
      have go : ∀ la' : Array Slot, lv_has la' (pm_mxl m) ((i, pm_mp ad fm (some (.inr (.inr x)))) :: (pm_lv ad fm ls).filter (fun q => !(q.1 == i) && !(q.1 + 1 == i && q.2.category == 2))) → W p l e R s mm args below meth c H locs cells slots Q (F0 mm nx la' (st'.map (pm_mp ad fm))) := fun la' hl' =>
        hG _ hop rfl ⟨pm_s1_ok ok.1 trivial (ok_hd ok.2) i, ok_tl ok.2⟩ H locs la' hH (pm_LR.of (by show (pm_s1 ls i (some (.inr (.inr x)))).length = pm_mxl m; rw [pm_s1_len]; exact hL.2.2.1) hl' (fun q hq => pm_s1_lv hfm hq))
      show W p l e R s mm args below meth c H locs cells slots Q (F0 mm pc la (pm_mp ad fm (some (.inr (.inr x))) :: st'.map (pm_mp ad fm)))
      rcases pm_mp_r (ad := ad) hfm x with e1 | ⟨a, e1⟩
      · rw [e1] at go ⊢
        exact rowN _ H locs la _ _ hL.has hi' rfl go
      · rw [e1] at go ⊢
        exact row a _ H locs la _ _ hL.has hi' rfl go
    · exact hop.elim
  · exact hop.elim
theorem sd_b1 {f : Int32 → Int32} (hop : pm_b1 False G f m nx ls st h) (hG : ∀ σ, G σ → σ.1 = m → pm_Ok σ → pm_At p l e R s mm args below meth c cells slots Q D cA ad fm A ex σ) (ok : pm_Ok (m, pc, ls, st, h))
    (row : ∀ (x : Int32) (rest : List Value) (H : Heap) (locs : List Loc) (la : Array Slot), W p l e R s mm args below meth c H locs cells slots Q (F0 mm nx la (.int (f x) :: rest)) → W p l e R s mm args below meth c H locs cells slots Q (F0 mm pc la (.int x :: rest))) :
    pm_At p l e R s mm args below meth c cells slots Q D cA ad fm A ex (m, pc, ls, st, h) := by
  unfold pm_b1 at hop
  split at hop
  · exact fun H locs la hH hL => row _ _ H locs la (hG _ hop rfl ⟨ok.1, ok_push (ok_tl ok.2) (by simp) trivial⟩ H locs la hH hL)
  · exact hop.elim
theorem sd_b2 {f : Int32 → Int32 → Int32} (hop : pm_b2 False G f m nx ls st h) (hG : ∀ σ, G σ → σ.1 = m → pm_Ok σ → pm_At p l e R s mm args below meth c cells slots Q D cA ad fm A ex σ) (ok : pm_Ok (m, pc, ls, st, h))
    (row : ∀ (x y : Int32) (rest : List Value) (H : Heap) (locs : List Loc) (la : Array Slot), W p l e R s mm args below meth c H locs cells slots Q (F0 mm nx la (.int (f x y) :: rest)) → W p l e R s mm args below meth c H locs cells slots Q (F0 mm pc la (.int y :: .int x :: rest))) :
    pm_At p l e R s mm args below meth c cells slots Q D cA ad fm A ex (m, pc, ls, st, h) := by
  unfold pm_b2 at hop
  split at hop
  · exact fun H locs la hH hL => row _ _ _ H locs la (hG _ hop rfl ⟨ok.1, ok_push (ok_tl (ok_tl ok.2)) (by simp) trivial⟩ H locs la hH hL)
  · exact hop.elim
theorem sd_l2 {f : Int64 → Int64 → Int64} (hop : pm_l2 False G f m nx ls st h) (hG : ∀ σ, G σ → σ.1 = m → pm_Ok σ → pm_At p l e R s mm args below meth c cells slots Q D cA ad fm A ex σ) (ok : pm_Ok (m, pc, ls, st, h))
    (row : ∀ (x y : Int64) (rest : List Value) (H : Heap) (locs : List Loc) (la : Array Slot), W p l e R s mm args below meth c H locs cells slots Q (F0 mm nx la (.long (f x y) :: rest)) → W p l e R s mm args below meth c H locs cells slots Q (F0 mm pc la (.long y :: .long x :: rest))) :
    pm_At p l e R s mm args below meth c cells slots Q D cA ad fm A ex (m, pc, ls, st, h) := by
  unfold pm_l2 at hop
  split at hop
  · exact fun H locs la hH hL => row _ _ _ H locs la (hG _ hop rfl ⟨ok.1, ok_push (ok_tl (ok_tl ok.2)) (by simp) trivial⟩ H locs la hH hL)
  · exact hop.elim
theorem sd_lsh {f : Int64 → Int32 → Int64} (hop : pm_lsh False G f m nx ls st h) (hG : ∀ σ, G σ → σ.1 = m → pm_Ok σ → pm_At p l e R s mm args below meth c cells slots Q D cA ad fm A ex σ) (ok : pm_Ok (m, pc, ls, st, h))
    (row : ∀ (x : Int64) (y : Int32) (rest : List Value) (H : Heap) (locs : List Loc) (la : Array Slot), W p l e R s mm args below meth c H locs cells slots Q (F0 mm nx la (.long (f x y) :: rest)) → W p l e R s mm args below meth c H locs cells slots Q (F0 mm pc la (.int y :: .long x :: rest))) :
    pm_At p l e R s mm args below meth c cells slots Q D cA ad fm A ex (m, pc, ls, st, h) := by
  unfold pm_lsh at hop
  split at hop
  · exact fun H locs la hH hL => row _ _ _ H locs la (hG _ hop rfl ⟨ok.1, ok_push (ok_tl (ok_tl ok.2)) (by simp) trivial⟩ H locs la hH hL)
  · exact hop.elim
theorem pm_ifz_of {cd : ClassFile.Cond} {x : Int32} {a b : Prop} (h : pm_ifz cd x a b) : (pm_cz cd x = true → a) ∧ (¬ pm_cz cd x = true → b) := by
  unfold pm_ifz at h
  unfold pm_cz
  cases cd <;> dsimp only at h ⊢ <;> split at h <;> rename_i q <;> simp only [decide_eq_true_eq] <;> refine ⟨fun z => ?_, fun z => ?_⟩ <;> first | exact h | exact absurd q z | exact absurd z q | exact absurd q (Int32.not_lt.mpr z) | exact absurd (Int32.not_lt.mp q) z | exact absurd q (fun k => z k)
theorem pm_ifc_of {cd : ClassFile.Cond} {x y : Int32} {a b : Prop} (h : pm_ifc cd x y a b) : (pm_cc cd x y = true → a) ∧ (¬ pm_cc cd x y = true → b) := by
  unfold pm_ifc at h
  unfold pm_cc
  cases cd <;> dsimp only at h ⊢ <;> split at h <;> rename_i q <;> simp only [decide_eq_true_eq] <;> refine ⟨fun z => ?_, fun z => ?_⟩ <;> first | exact h | exact absurd q z | exact absurd z q | exact absurd q (Int32.not_lt.mpr z) | exact absurd (Int32.not_lt.mp q) z | exact absurd q (fun k => z k)
theorem sd_if1 {cd : ClassFile.Cond} {tg : Nat} (hop : pm_if1 False G cd m nx tg ls st h) (hG : ∀ σ, G σ → σ.1 = m → pm_Ok σ → pm_At p l e R s mm args below meth c cells slots Q D cA ad fm A ex σ) (ok : pm_Ok (m, pc, ls, st, h))
    (row : ∀ (x : Int32) (rest : List Value) (H : Heap) (locs : List Loc) (la : Array Slot), (pm_cz cd x = true → W p l e R s mm args below meth c H locs cells slots Q (F0 mm tg la rest)) → (¬ pm_cz cd x = true → W p l e R s mm args below meth c H locs cells slots Q (F0 mm nx la rest)) → W p l e R s mm args below meth c H locs cells slots Q (F0 mm pc la (.int x :: rest))) :
    pm_At p l e R s mm args below meth c cells slots Q D cA ad fm A ex (m, pc, ls, st, h) := by
  unfold pm_if1 at hop
  split at hop
  · intro H locs la hH hL
    exact row _ _ H locs la (fun hb => hG _ ((pm_ifz_of hop).1 hb) rfl ⟨ok.1, ok_tl ok.2⟩ H locs la hH hL) (fun hb => hG _ ((pm_ifz_of hop).2 hb) rfl ⟨ok.1, ok_tl ok.2⟩ H locs la hH hL)
  · exact hop.elim
theorem sd_if2 {cd : ClassFile.Cond} {tg : Nat} (hop : pm_if2 False G cd m nx tg ls st h) (hG : ∀ σ, G σ → σ.1 = m → pm_Ok σ → pm_At p l e R s mm args below meth c cells slots Q D cA ad fm A ex σ) (ok : pm_Ok (m, pc, ls, st, h))
    (row : ∀ (x y : Int32) (rest : List Value) (H : Heap) (locs : List Loc) (la : Array Slot), (pm_cc cd x y = true → W p l e R s mm args below meth c H locs cells slots Q (F0 mm tg la rest)) → (¬ pm_cc cd x y = true → W p l e R s mm args below meth c H locs cells slots Q (F0 mm nx la rest)) → W p l e R s mm args below meth c H locs cells slots Q (F0 mm pc la (.int y :: .int x :: rest))) :
    pm_At p l e R s mm args below meth c cells slots Q D cA ad fm A ex (m, pc, ls, st, h) := by
  unfold pm_if2 at hop
  split at hop
  · intro H locs la hH hL
    exact row _ _ _ H locs la (fun hb => hG _ ((pm_ifc_of hop).1 hb) rfl ⟨ok.1, ok_tl (ok_tl ok.2)⟩ H locs la hH hL) (fun hb => hG _ ((pm_ifc_of hop).2 hb) rfl ⟨ok.1, ok_tl (ok_tl ok.2)⟩ H locs la hH hL)
  · exact hop.elim
end PMS
end
section
section PMH
variable {p : Program} {l : Launch} {e : Env} {R : Room} {s : State} {mm : MethodId} {args : Array Value} {below : List Frame} {meth : Method} {c : Code} {cells slots : Nat} {Q : State → Prop}
variable {D : va_G} {cA : Nat → Nat → ClassId} {ad : Nat → Nat → Nat} {fm : Value} {A : Nat → Prop} {ex : Nat → Nat → Nat → Int32}
variable {m pc : Nat} {ls st : List PV} {h : PH} {G : PS → Prop}
theorem pm_inb_in {j : Int32} {n : Nat} (h : pm_inb j n = true) : vp_in j n := by
  unfold pm_inb at h
  simp only [Bool.and_eq_true, decide_eq_true_eq] at h
  intro q
  rcases q with q | q
  · exact absurd q (Int32.not_lt.mpr h.1)
  · omega
theorem pm_ob_of {t i : Nat} (h : pm_okq t i) (ht : t < 60) : (t, i) ∈ pm_obs := by
  rcases h with h | ⟨h, -⟩ | ⟨h, -, -⟩ | h
  · exact h
  · omega
  · omega
  · omega
theorem pm_cell_o {t i : Nat} (ht : t < 9) : pm_cell ad cA h t i = .inr (t, (List.range (pm_nf t)).map (pm_fv ad h t i)) := by unfold pm_cell; rw [if_pos ht]
theorem pm_cell_I {t i k : Nat} (ht : ¬ t < 9) (hk : pm_ak t = k) (h1 : k ≠ 1) (h3 : k ≠ 3) : pm_cell ad cA h t i = .inl (cA t i, (pm_nth pm_at (t - 10) (9, 0)).2, .inl (h.1 t i)) := by
  unfold pm_cell
  rw [if_neg ht, hk]
  split
  · exact absurd rfl h1
  · exact absurd rfl h3
  · rfl
theorem pm_cell_L {t i : Nat} (ht : ¬ t < 9) (hk : pm_ak t = 1) : pm_cell ad cA h t i = .inl (cA t i, (pm_nth pm_at (t - 10) (9, 0)).2, .inr (.inl (h.2 t i))) := by
  unfold pm_cell
  rw [if_neg ht, hk]
  rfl
theorem pm_cell_R {t i : Nat} (ht : ¬ t < 9) (hk : pm_ak t = 3) : pm_cell ad cA h t i = .inl (cA t i, (pm_nth pm_at (t - 10) (9, 0)).2, .inr (.inr (.inr (.inr (fun j => pm_aad ad (pm_aref t i j)))))) := by
  unfold pm_cell
  rw [if_neg ht, hk]
  rfl
theorem pm_isW_of {t k : Nat} (h : pm_isW t k = true) : 10 ≤ t ∧ t < 44 ∧ pm_ak t = k := by
  unfold pm_isW at h
  simp only [Bool.and_eq_true, decide_eq_true_eq, beq_iff_eq] at h
  exact ⟨h.1.1, h.1.2, h.2⟩
theorem pm_len_in {h : PH} {t i : Nat} (ht : t < 44) : pm_len h t i = (pm_nth pm_at (t - 10) (9, 0)).2 := by unfold pm_len; rw [if_pos ht]
theorem pm_mp_ref {t i : Nat} (ht : t ≠ 67) : pm_mp ad fm (vr t i) = .ref (ad t i) := by
  show (if t = 67 then fm else Value.ref (ad t i)) = .ref (ad t i)
  rw [if_neg ht]
theorem sd_get {idx : Nat} (F : pm_Fr p R s mm args c cells slots D cA ad fm A ex m) (hdg : decode (pm_by m) pc = .ok (.getfield idx, 3)) (hop : pm_get False G idx m (pc + 3) ls st h) (hG : ∀ σ, G σ → σ.1 = m → pm_Ok σ → pm_At p l e R s mm args below meth c cells slots Q D cA ad fm A ex σ) (ok : pm_Ok (m, pc, ls, st, h)) :
    pm_At p l e R s mm args below meth c cells slots Q D cA ad fm A ex (m, pc, ls, st, h) := by
  obtain ⟨hx, hb, hml, hown, hts, hK, hX, hrf, hrl, hrc, hrs⟩ := F
  unfold pm_get at hop
  split at hop
  · rename_i t i st'
    split at hop
    · exact hop.elim
    · rename_i ci k hlk
      split at hop
      · rename_i htc
        subst htc
        have hoq : pm_okq t i := ok_hd ok.2
        intro H locs la hH hL
        obtain ⟨hP, hD, hS, hE⟩ := hH
        split at hop
        · rename_i h60
          subst h60
          have hi21 : i < 21 := by
            rcases hoq with q | ⟨-, q⟩ | ⟨q, -, -⟩ | q
            · have := tf_tag _ q; simp only at this; omega
            · exact q
            · omega
            · omega
          obtain ⟨-, -, -, -, -, -, -, hStr, -⟩ := hX
          obtain ⟨s1, s2, s3, s4⟩ := hStr i hi21
          show W p l e R s mm args below meth c H locs cells slots Q (F0 mm pc la (pm_mp ad fm (vr 60 i) :: st'.map (pm_mp ad fm)))
          rw [pm_mp_ref (by decide)]
          obtain ⟨f0, f1⟩ := tf_fls hlk
          split at hop
          · rename_i hk
            refine vk_getf hx hb s3 hS hown (hts _ (f0 hk)) (fun _ z => z) hdg ?_
            have g1 := hG _ hop rfl ⟨ok.1, ok_push (ok_tl ok.2) (by simp) (Or.inr (Or.inl ⟨Or.inr rfl, hi21⟩))⟩ H locs la ⟨hP, hD, hS, hE⟩ hL
            rw [List.map_cons, pm_mp_ref (by decide)] at g1
            exact g1
          · split at hop
            · rename_i hk
              refine vk_getf hx hb s2 hS hown (hts _ (f1 hk)) (fun _ z => z) hdg ?_
              exact hG _ hop rfl ⟨ok.1, ok_push (ok_tl ok.2) (by simp) trivial⟩ H locs la ⟨hP, hD, hS, hE⟩ hL
            · exact hop.elim
        · rename_i hn60
          have hft : pm_fty t k = 0 ∨ pm_fty t k = 2 ∨ pm_fty t k = 1 ∨ pm_fty t k = 3 := by
            split at hop
            · exact Or.inl (by assumption)
            · exact Or.inr (Or.inl (by assumption))
            · exact Or.inr (Or.inr (Or.inl (by assumption)))
            · exact Or.inr (Or.inr (Or.inr (by assumption)))
            · exact hop.elim
          have ht9 : t < 9 := by
            refine Nat.not_le.mp fun hge => ?_
            have : pm_fty t k = 9 := by
              unfold pm_fty
              rw [pm_nth_eq, pm_nth_eq, List.getD_eq_getElem?_getD, List.getD_eq_getElem?_getD]
              have : pm_ft[t]? = none := by rw [List.getElem?_eq_none_iff]; exact hge
              rw [this]
              simp
            omega
          have hob : (t, i) ∈ pm_obs := pm_ob_of hoq (by omega)
          obtain ⟨C, T, hcl, hkN, hfl, hC, -, -, -⟩ := tf_fld hlk ht9
          obtain ⟨q0, -, hq0⟩ := pm_ws_at (ad := ad) (cA := cA) (h := h) hob
          rw [pm_cell_o ht9] at hq0
          show W p l e R s mm args below meth c H locs cells slots Q (F0 mm pc la (pm_mp ad fm (vr t i) :: st'.map (pm_mp ad fm)))
          rw [pm_mp_ref (by omega)]
          refine va_get (D := D) (ci := t) (v := pm_fv ad h t i k) (C := C) (T := T) (N := pm_nf t) hx hb hts (tf_cls hcl).1 hown hK hP q0 hq0 hcl k hkN (hts _ hfl) (fun _ z => by rw [hC] at z; exact z) (by rw [List.getElem?_map, List.getElem?_range hkN]; rfl) hdg ?_
          split at hop
          · rename_i hz
            rw [show pm_fv ad h t i k = Value.int (h.1 t i k) from by unfold pm_fv; rw [hz]; rfl]
            exact hG _ hop rfl ⟨ok.1, ok_push (ok_tl ok.2) (by simp) trivial⟩ H locs la ⟨hP, hD, hS, hE⟩ hL
          · rename_i hz
            rw [show pm_fv ad h t i k = Value.int (h.1 t i k) from by unfold pm_fv; rw [hz]; rfl]
            exact hG _ hop rfl ⟨ok.1, ok_push (ok_tl ok.2) (by simp) trivial⟩ H locs la ⟨hP, hD, hS, hE⟩ hL
          · rename_i hz
            rw [show pm_fv ad h t i k = Value.long (h.2 t i k) from by unfold pm_fv; rw [hz]; rfl]
            exact hG _ hop rfl ⟨ok.1, ok_push (ok_tl ok.2) (by simp) trivial⟩ H locs la ⟨hP, hD, hS, hE⟩ hL
          · rename_i hz
            rw [show pm_fv ad h t i k = pm_mp ad .null (pm_rf t k i) from by unfold pm_fv; rw [hz]; rfl]
            have hrf := tf_rf _ hob ht9 k hkN hz
            have g1 := hG _ hop rfl ⟨ok.1, ok_push (ok_tl ok.2) (by unfold pm_rf; split <;> simp) hrf⟩ H locs la ⟨hP, hD, hS, hE⟩ hL
            have e1 : pm_mp ad fm (pm_rf t k i) = pm_mp ad .null (pm_rf t k i) := by
              have h67 : ∀ (tt ii : Nat), pm_rf t k i = vr tt ii → tt ≠ 67 → pm_mp ad fm (pm_rf t k i) = pm_mp ad .null (pm_rf t k i) := fun tt ii e0 e1 => by rw [e0, pm_mp_ref e1, pm_mp_ref e1]
              have hlt : ∃ tt ii, pm_rf t k i = vr tt ii ∧ tt ≠ 67 := tf_r67 t k i
              obtain ⟨tt, ii, a1, a2⟩ := hlt
              exact h67 tt ii a1 a2
            rw [List.map_cons, e1] at g1
            exact g1
          · exact hop.elim
      · exact hop.elim
  · exact hop.elim
theorem pm_ws_dom {h h' : PH} : va_D A (pm_ws ad cA h) → va_D A (pm_ws ad cA h') := by
  intro hD
  refine ⟨fun i j a b hi hj e0 => ?_, fun k q hk => ?_⟩
  · unfold pm_ws at hi hj
    rw [List.getElem?_map] at hi hj
    cases ei : pm_obs[i]? with
    | none => rw [ei] at hi; cases hi
    | some x =>
      cases ej : pm_obs[j]? with
      | none => rw [ej] at hj; cases hj
      | some y =>
        rw [ei] at hi; rw [ej] at hj
        have hi := Option.some.inj hi
        have hj := Option.some.inj hj
        subst hi; subst hj
        refine hD.1 i j (ad x.1 x.2, pm_cell ad cA h x.1 x.2) (ad y.1 y.2, pm_cell ad cA h y.1 y.2) (by unfold pm_ws; rw [List.getElem?_map, ei]; rfl) (by unfold pm_ws; rw [List.getElem?_map, ej]; rfl) e0
  · unfold pm_ws at hk
    rw [List.getElem?_map] at hk
    cases ek : pm_obs[k]? with
    | none => rw [ek] at hk; cases hk
    | some x =>
      rw [ek] at hk
      have hk := Option.some.inj hk
      subst hk
      exact hD.2 k (ad x.1 x.2, pm_cell ad cA h x.1 x.2) (by unfold pm_ws; rw [List.getElem?_map, ek]; rfl)
theorem pm_fv_sI {t i k : Nat} {x : Int32} (hk : pm_fty t k = 0 ∨ pm_fty t k = 2) (n : Nat) : (List.range n).map (pm_fv ad (pm_sI h t i k x) t i) = ((List.range n).map (pm_fv ad h t i)).set k (.int x) := by
  refine List.ext_getElem? fun j => ?_
  rw [List.getElem?_set, List.getElem?_map, List.getElem?_map, List.length_map, List.length_range]
  by_cases hj : k = j
  · subst hj
    rw [if_pos rfl]
    by_cases hn : k < n
    · rw [if_pos hn, List.getElem?_range hn]
      show some (pm_fv ad (pm_sI h t i k x) t i k) = some (.int x)
      have e0 : (pm_sI h t i k x).1 t i k = x := by rw [pm_sI_at]; exact if_pos ⟨rfl, rfl, rfl⟩
      unfold pm_fv
      rcases hk with hk | hk <;> rw [hk] <;> simp only [e0]
    · rw [if_neg hn, List.getElem?_eq_none_iff.mpr (by rw [List.length_range]; omega)]
      rfl
  · rw [if_neg hj]
    cases ej : (List.range n)[j]? with
    | none => rfl
    | some y =>
      have hy : y = j := by
        have := List.getElem?_eq_some_iff.mp ej
        obtain ⟨h1, h2⟩ := this
        simp at h2
        exact h2.symm
      subst hy
      show some (pm_fv ad (pm_sI h t i k x) t i y) = some (pm_fv ad h t i y)
      have e0 : (pm_sI h t i k x).1 t i y = h.1 t i y := by rw [pm_sI_at]; exact if_neg (fun z => hj z.2.2.symm)
      have e2 : (pm_sI h t i k x).2 = h.2 := rfl
      unfold pm_fv
      simp only [e0, e2]
theorem pm_fv_sL {t i k : Nat} {x : Int64} (hk : pm_fty t k = 1) (n : Nat) : (List.range n).map (pm_fv ad (pm_sL h t i k x) t i) = ((List.range n).map (pm_fv ad h t i)).set k (.long x) := by
  refine List.ext_getElem? fun j => ?_
  rw [List.getElem?_set, List.getElem?_map, List.getElem?_map, List.length_map, List.length_range]
  by_cases hj : k = j
  · subst hj
    rw [if_pos rfl]
    by_cases hn : k < n
    · rw [if_pos hn, List.getElem?_range hn]
      show some (pm_fv ad (pm_sL h t i k x) t i k) = some (.long x)
      have e0 : (pm_sL h t i k x).2 t i k = x := by rw [pm_sL_at]; exact if_pos ⟨rfl, rfl, rfl⟩
      unfold pm_fv
      rw [hk]
      simp only [e0]
    · rw [if_neg hn, List.getElem?_eq_none_iff.mpr (by rw [List.length_range]; omega)]
      rfl
  · rw [if_neg hj]
    cases ej : (List.range n)[j]? with
    | none => rfl
    | some y =>
      have hy : y = j := by
        have := List.getElem?_eq_some_iff.mp ej
        obtain ⟨h1, h2⟩ := this
        simp at h2
        exact h2.symm
      subst hy
      show some (pm_fv ad (pm_sL h t i k x) t i y) = some (pm_fv ad h t i y)
      have e0 : (pm_sL h t i k x).2 t i y = h.2 t i y := by rw [pm_sL_at]; exact if_neg (fun z => hj z.2.2.symm)
      have e2 : (pm_sL h t i k x).1 = h.1 := rfl
      unfold pm_fv
      simp only [e0, e2]
theorem pm_nar_bool {x : Int32} (hx : x &&& 1 = x) : narrow .boolean (.int x) = .int x ∧ fits .boolean (.int x) = true := by
  constructor
  · show Value.int _ = Value.int x
    first | (rw [hx]) | (congr 1)
  · have hx2 : x = 0 ∨ x = 1 := by
      have h1 : x.toBitVec &&& 1#32 = x.toBitVec := congrArg Int32.toBitVec hx
      have h2 : x.toBitVec = 0#32 ∨ x.toBitVec = 1#32 := by
        have h3 := congrArg BitVec.toNat h1
        rw [BitVec.toNat_and] at h3
        have h4 : x.toBitVec.toNat % 2 = x.toBitVec.toNat := by rw [← Nat.and_one_is_mod]; exact h3
        have h5 : x.toBitVec.toNat = 0 ∨ x.toBitVec.toNat = 1 := by omega
        rcases h5 with h5 | h5
        · exact Or.inl (BitVec.eq_of_toNat_eq h5)
        · exact Or.inr (BitVec.eq_of_toNat_eq h5)
      rcases h2 with h2 | h2
      · exact Or.inl (Int32.toBitVec_inj.mp h2)
      · exact Or.inr (Int32.toBitVec_inj.mp h2)
    rcases hx2 with e0 | e0 <;> rw [e0] <;> decide
end PMH
end
section
section PMI
variable {p : Program} {l : Launch} {e : Env} {R : Room} {s : State} {mm : MethodId} {args : Array Value} {below : List Frame} {meth : Method} {c : Code} {cells slots : Nat} {Q : State → Prop}
variable {D : va_G} {cA : Nat → Nat → ClassId} {ad : Nat → Nat → Nat} {fm : Value} {A : Nat → Prop} {ex : Nat → Nat → Nat → Int32}
variable {m pc : Nat} {ls st : List PV} {h : PH} {G : PS → Prop}
theorem pm_ex_sI {h : PH} {ex : Nat → Nat → Nat → Int32} (hE : ∀ t, 60 ≤ t → h.1 t = ex t) {t i k : Nat} (ht : t < 60) (x : Int32) : ∀ t', 60 ≤ t' → (pm_sI h t i k x).1 t' = ex t' := by
  intro t' h'
  rw [← hE t' h']
  funext b d
  rw [pm_sI_at]
  exact if_neg (fun z => by omega)
theorem pm_ex_cp {h : PH} {ex : Nat → Nat → Nat → Int32} (hE : ∀ t, 60 ≤ t → h.1 t = ex t) {t i sp u j dp n : Nat} (ht : u < 60) : ∀ t', 60 ≤ t' → (pm_cp h t i sp u j dp n).1 t' = ex t' := by
  intro t' h'
  rw [← hE t' h']
  funext b d
  rw [pm_cp_at]
  exact if_neg (fun z => by omega)
theorem sd_put {idx : Nat} (F : pm_Fr p R s mm args c cells slots D cA ad fm A ex m) (hdg : decode (pm_by m) pc = .ok (.putfield idx, 3)) (hop : pm_put False G idx m (pc + 3) ls st h) (hG : ∀ σ, G σ → σ.1 = m → pm_Ok σ → pm_At p l e R s mm args below meth c cells slots Q D cA ad fm A ex σ) (ok : pm_Ok (m, pc, ls, st, h)) :
    pm_At p l e R s mm args below meth c cells slots Q D cA ad fm A ex (m, pc, ls, st, h) := by
  obtain ⟨hx, hb, hml, hown, hts, hK, hX, hrf, hrl, hrc, hrs⟩ := F
  unfold pm_put at hop
  split at hop
  · rename_i v t i st'
    split at hop
    · exact hop.elim
    · rename_i ci k hlk
      split at hop
      · rename_i htc
        obtain ⟨htc, ht9⟩ := htc
        subst htc
        have hob : (t, i) ∈ pm_obs := pm_ob_of (ok_hd (ok_tl ok.2)) (by omega)
        intro H locs la hH hL
        obtain ⟨hP, hD, hS, hE⟩ := hH
        obtain ⟨C, T, hcl, hkN, hfl, hC, hI, hLg, hZ⟩ := tf_fld hlk ht9
        obtain ⟨q0, hq1, hq0⟩ := pm_ws_at (ad := ad) (cA := cA) (h := h) hob
        rw [pm_cell_o ht9] at hq0
        obtain ⟨hin, ⟨ty, hty⟩, hnm⟩ := tf_cls hcl
        have hsame : ∀ x, s.fieldFound? (T k).1 (T k).2.1 (T k).2.2.1 = some x → s.fieldFound? C (T k).2.1 (T k).2.2.1 = some x := fun _ z => by rw [hC] at z; exact z
        have hlen : k < ((List.range (pm_nf t)).map (pm_fv ad h t i)).length := by rw [List.length_map, List.length_range]; exact hkN
        show W p l e R s mm args below meth c H locs cells slots Q (F0 mm pc la (pm_mp ad fm v :: pm_mp ad fm (vr t i) :: st'.map (pm_mp ad fm)))
        rw [pm_mp_ref (t := t) (by omega)]
        split at hop
        · rename_i x hz
          refine va_put (D := D) (ci := t) (v := .int x) (ty := .int) (C := C) (T := T) (N := pm_nf t) hx hb hts hin ty hty hnm hown hK hP hD hS q0 hq0 hcl k hkN (hts _ hfl) hsame (hI hz).2 (hI hz).1 rfl rfl hlen hdg (fun H1 locs1 hP1 hD1 hS1 => ?_)
          rw [← pm_fv_sI (Or.inl hz), pm_ws_set hq1 pm_cell_sI (pm_cell_o ht9)] at hP1 hD1
          exact hG _ hop rfl ⟨ok.1, ok_tl (ok_tl ok.2)⟩ H1 locs1 la ⟨hP1, hD1, hS1, pm_ex_sI hE (by omega) x⟩ hL
        · rename_i x hz
          split at hop
          · rename_i hb1
            have hnb := pm_nar_bool hb1
            refine va_put (D := D) (ci := t) (v := .int x) (ty := .boolean) (C := C) (T := T) (N := pm_nf t) hx hb hts hin ty hty hnm hown hK hP hD hS q0 hq0 hcl k hkN (hts _ hfl) hsame (hZ hz).2 (hZ hz).1 hnb.1 hnb.2 hlen hdg (fun H1 locs1 hP1 hD1 hS1 => ?_)
            rw [← pm_fv_sI (Or.inr hz), pm_ws_set hq1 pm_cell_sI (pm_cell_o ht9)] at hP1 hD1
            exact hG _ hop rfl ⟨ok.1, ok_tl (ok_tl ok.2)⟩ H1 locs1 la ⟨hP1, hD1, hS1, pm_ex_sI hE (by omega) x⟩ hL
          · exact hop.elim
        · rename_i x hz
          refine va_put (D := D) (ci := t) (v := .long x) (ty := .long) (C := C) (T := T) (N := pm_nf t) hx hb hts hin ty hty hnm hown hK hP hD hS q0 hq0 hcl k hkN (hts _ hfl) hsame (hLg hz).2 (hLg hz).1 rfl rfl hlen hdg (fun H1 locs1 hP1 hD1 hS1 => ?_)
          rw [← pm_fv_sL hz, pm_ws_set hq1 pm_cell_sL (pm_cell_o ht9)] at hP1 hD1
          exact hG _ hop rfl ⟨ok.1, ok_tl (ok_tl ok.2)⟩ H1 locs1 la ⟨hP1, hD1, hS1, hE⟩ hL
        · exact hop.elim
      · exact hop.elim
  · exact hop.elim
theorem sd_gst {idx : Nat} (F : pm_Fr p R s mm args c cells slots D cA ad fm A ex m) (hdg : decode (pm_by m) pc = .ok (.getstatic idx, 3)) (hop : pm_gst False G idx m (pc + 3) ls st h) (hG : ∀ σ, G σ → σ.1 = m → pm_Ok σ → pm_At p l e R s mm args below meth c cells slots Q D cA ad fm A ex σ) (ok : pm_Ok (m, pc, ls, st, h)) :
    pm_At p l e R s mm args below meth c cells slots Q D cA ad fm A ex (m, pc, ls, st, h) := by
  obtain ⟨hx, hb, hml, hown, hts, hK, hX, hrf, hrl, hrc, hrs⟩ := F
  obtain ⟨hfm, -, ⟨z0, -⟩, ⟨z1, -⟩, ⟨z2, -⟩, z3, z4, -, -⟩ := hX
  unfold pm_gst at hop
  split at hop
  · rename_i hlk
    intro H locs la hH hL
    refine va_gets hx hb z0 hH.2.2.1 hown (hts _ (tf_gst hlk)) (fun _ z => z) hdg ?_
    have g1 := hG _ hop rfl ⟨ok.1, ok_push ok.2 (by simp) (Or.inr (Or.inr (Or.inl ⟨by decide, by decide, rfl⟩)))⟩ H locs la hH hL
    rw [List.map_cons, pm_mp_ref (by decide)] at g1
    exact g1
  · rename_i hlk
    intro H locs la hH hL
    refine va_gets hx hb z1 hH.2.2.1 hown (hts _ (tf_gst hlk)) (fun _ z => z) hdg ?_
    have g1 := hG _ hop rfl ⟨ok.1, ok_push ok.2 (by simp) (Or.inr (Or.inr (Or.inl ⟨by decide, by decide, rfl⟩)))⟩ H locs la hH hL
    rw [List.map_cons, pm_mp_ref (by decide)] at g1
    exact g1
  · rename_i hlk
    intro H locs la hH hL
    refine va_gets hx hb z2 hH.2.2.1 hown (hts _ (tf_gst hlk)) (fun _ z => z) hdg ?_
    have g1 := hG _ hop rfl ⟨ok.1, ok_push ok.2 (by simp) (Or.inr (Or.inr (Or.inl ⟨by decide, by decide, rfl⟩)))⟩ H locs la hH hL
    rw [List.map_cons, pm_mp_ref (by decide)] at g1
    exact g1
  · rename_i hlk
    intro H locs la hH hL
    refine va_gets hx hb z3 hH.2.2.1 hown (hts _ (tf_gst hlk)) (fun _ z => z) hdg ?_
    exact hG _ hop rfl ⟨ok.1, ok_push ok.2 (by simp) trivial⟩ H locs la hH hL
  · rename_i hlk
    intro H locs la hH hL
    refine va_gets hx hb z4 hH.2.2.1 hown (hts _ (tf_gst hlk)) (fun _ z => z) hdg ?_
    have g1 := hG _ hop rfl ⟨ok.1, ok_push ok.2 (by simp) (Or.inr (Or.inr (Or.inr rfl)))⟩ H locs la hH hL
    rw [List.map_cons, show pm_mp ad fm (vr 67 0) = fm from by simp [pm_mp]] at g1
    exact g1
  · exact hop.elim
end PMI
end
section
section PMA
variable {p : Program} {l : Launch} {e : Env} {R : Room} {s : State} {mm : MethodId} {args : Array Value} {below : List Frame} {meth : Method} {c : Code} {cells slots : Nat} {Q : State → Prop}
variable {D : va_G} {cA : Nat → Nat → ClassId} {ad : Nat → Nat → Nat} {fm : Value} {A : Nat → Prop} {ex : Nat → Nat → Nat → Int32}
variable {m pc : Nat} {ls st : List PV} {h : PH} {G : PS → Prop}
theorem pm_isI_of {t : Nat} (h : pm_isI t = true) : (10 ≤ t ∧ t < 44 ∧ pm_ak t = 0) ∨ t = 62 ∨ t = 63 ∨ t = 64 ∨ t = 65 := by
  unfold pm_isI at h
  simp only [Bool.or_eq_true, Bool.and_eq_true, decide_eq_true_eq, beq_iff_eq] at h
  omega
theorem pm_aty_of {t k : Nat} (h : pm_ak t = k) : (k = 0 → pm_aty t = .int) ∧ (k = 1 → pm_aty t = .long) ∧ (k = 2 → pm_aty t = .boolean) ∧ (k = 3 → ∃ C, pm_aty t = .object C) := by
  subst h
  refine ⟨fun z => ?_, fun z => ?_, fun z => ?_, fun z => ?_⟩
  · unfold pm_aty; rw [z]; rfl
  · unfold pm_aty; rw [z]; rfl
  · unfold pm_aty; rw [z]; rfl
  · unfold pm_aty; rw [z]; exact ⟨_, rfl⟩
theorem sd_iald (F : pm_Fr p R s mm args c cells slots D cA ad fm A ex m) (hdg : decode (pm_by m) pc = .ok (.iaload, 1)) (hop : pm_iald False G m (pc + 1) ls st h) (hG : ∀ σ, G σ → σ.1 = m → pm_Ok σ → pm_At p l e R s mm args below meth c cells slots Q D cA ad fm A ex σ) (ok : pm_Ok (m, pc, ls, st, h)) :
    pm_At p l e R s mm args below meth c cells slots Q D cA ad fm A ex (m, pc, ls, st, h) := by
  obtain ⟨hx, hb, hml, hown, hts, hK, hX, hrf, hrl, hrc, hrs⟩ := F
  obtain ⟨-, ⟨x1, x2, x3⟩, ⟨-, z0⟩, ⟨-, z1⟩, ⟨-, z2⟩, -, -, -, -⟩ := hX
  unfold pm_iald at hop
  split at hop
  · rename_i j t i st'
    split at hop
    · rename_i hI
      split at hop
      · rename_i hin
        intro H locs la hH hL
        have g1 := hG _ hop rfl ⟨ok.1, ok_push (ok_tl (ok_tl ok.2)) (by simp) trivial⟩ H locs la hH hL
        obtain ⟨hP, hD, hS, hE⟩ := hH
        have hoq := ok_hd (ok_tl ok.2)
        have hin' := pm_inb_in hin
        show W p l e R s mm args below meth c H locs cells slots Q (F0 mm pc la (.int j :: pm_mp ad fm (vr t i) :: st'.map (pm_mp ad fm)))
        rcases pm_isI_of hI with ⟨h1, h2, h3⟩ | h1
        · rw [pm_mp_ref (by omega)]
          have hob : (t, i) ∈ pm_obs := pm_ob_of hoq (by omega)
          obtain ⟨q0, -, hq0⟩ := pm_ws_at (ad := ad) (cA := cA) (h := h) hob
          rw [pm_cell_I (by omega) h3 (by decide) (by decide)] at hq0
          obtain ⟨t0, ht0⟩ := pm_tys_at (cA := cA) hob h1
          rw [(pm_aty_of h3).1 rfl] at ht0
          rw [pm_len_in h2] at hin'
          exact va_iald hx hb hK hP q0 t0 hq0 ht0 hin' hdg g1
        · have hi0 : i = 0 := by
            rcases hoq with q | ⟨q, -⟩ | ⟨-, -, q⟩ | q
            · have := tf_tag _ q; simp only at this; omega
            · omega
            · exact q
            · omega
          subst hi0
          rw [pm_mp_ref (by omega)]
          rcases h1 with h1 | h1 | h1 | h1
          · subst h1
            exact va_ti hx hb z0 hS hin' (by rw [← hE 62 (by decide)]; rfl) hdg g1
          · subst h1
            exact va_ti hx hb z1 hS hin' (by rw [← hE 63 (by decide)]; rfl) hdg g1
          · subst h1
            exact va_ti hx hb z2 hS hin' (by rw [← hE 64 (by decide)]; rfl) hdg g1
          · subst h1
            have e6 : pm_len h 65 0 = (ex 66 0 0).toNatClampNeg := by rw [← hE 66 (by decide)]; rfl
            rw [e6] at hin'
            refine va_sld hx hb x1 x2 x3 hS hin' hdg ?_
            rw [← hE 65 (by decide)]
            exact g1
      · exact hop.elim
    · exact hop.elim
  · exact hop.elim
theorem sd_bald (F : pm_Fr p R s mm args c cells slots D cA ad fm A ex m) (hdg : decode (pm_by m) pc = .ok (.baload, 1)) (hop : pm_bald False G m (pc + 1) ls st h) (hG : ∀ σ, G σ → σ.1 = m → pm_Ok σ → pm_At p l e R s mm args below meth c cells slots Q D cA ad fm A ex σ) (ok : pm_Ok (m, pc, ls, st, h)) :
    pm_At p l e R s mm args below meth c cells slots Q D cA ad fm A ex (m, pc, ls, st, h) := by
  obtain ⟨hx, hb, hml, hown, hts, hK, hX, hrf, hrl, hrc, hrs⟩ := F
  obtain ⟨-, -, -, -, -, -, -, hStr, -⟩ := hX
  unfold pm_bald at hop
  split at hop
  · rename_i j t i st'
    split at hop
    · rename_i hI
      split at hop
      · rename_i hin
        intro H locs la hH hL
        have g1 := hG _ hop rfl ⟨ok.1, ok_push (ok_tl (ok_tl ok.2)) (by simp) trivial⟩ H locs la hH hL
        obtain ⟨hP, hD, hS, hE⟩ := hH
        have hoq := ok_hd (ok_tl ok.2)
        have hin' := pm_inb_in hin
        show W p l e R s mm args below meth c H locs cells slots Q (F0 mm pc la (.int j :: pm_mp ad fm (vr t i) :: st'.map (pm_mp ad fm)))
        rcases Bool.or_eq_true _ _ ▸ hI with hI | hI
        · obtain ⟨h1, h2, h3⟩ := pm_isW_of hI
          rw [pm_mp_ref (by omega)]
          have hob : (t, i) ∈ pm_obs := pm_ob_of hoq (by omega)
          obtain ⟨q0, -, hq0⟩ := pm_ws_at (ad := ad) (cA := cA) (h := h) hob
          rw [pm_cell_I (by omega) h3 (by decide) (by decide)] at hq0
          obtain ⟨t0, ht0⟩ := pm_tys_at (cA := cA) hob h1
          rw [(pm_aty_of h3).2.2.1 rfl] at ht0
          rw [pm_len_in h2] at hin'
          exact va_zald hx hb hK hP q0 t0 hq0 ht0 hin' hdg g1
        · have h1 : t = 61 := by simpa using hI
          subst h1
          have hi21 : i < 21 := by
            rcases hoq with q | ⟨-, q⟩ | ⟨q, -, -⟩ | q
            · have := tf_tag _ q; simp only at this; omega
            · exact q
            · omega
            · omega
          rw [pm_mp_ref (by omega)]
          have e6 : pm_len h 61 i = pm_nth pm_SL i 0 := rfl
          rw [e6] at hin'
          exact va_tb hx hb (hStr i hi21).2.2.2 hS hin' (by rw [← hE 61 (by decide)]; rfl) hdg g1
      · exact hop.elim
    · exact hop.elim
  · exact hop.elim
theorem sd_lald (F : pm_Fr p R s mm args c cells slots D cA ad fm A ex m) (hdg : decode (pm_by m) pc = .ok (.laload, 1)) (hop : pm_lald False G m (pc + 1) ls st h) (hG : ∀ σ, G σ → σ.1 = m → pm_Ok σ → pm_At p l e R s mm args below meth c cells slots Q D cA ad fm A ex σ) (ok : pm_Ok (m, pc, ls, st, h)) :
    pm_At p l e R s mm args below meth c cells slots Q D cA ad fm A ex (m, pc, ls, st, h) := by
  obtain ⟨hx, hb, hml, hown, hts, hK, hX, hrf, hrl, hrc, hrs⟩ := F
  unfold pm_lald at hop
  split at hop
  · rename_i j t i st'
    split at hop
    · rename_i hI
      split at hop
      · rename_i hin
        intro H locs la hH hL
        have g1 := hG _ hop rfl ⟨ok.1, ok_push (ok_tl (ok_tl ok.2)) (by simp) trivial⟩ H locs la hH hL
        obtain ⟨hP, hD, hS, hE⟩ := hH
        have hin' := pm_inb_in hin
        obtain ⟨h1, h2, h3⟩ := pm_isW_of hI
        show W p l e R s mm args below meth c H locs cells slots Q (F0 mm pc la (.int j :: pm_mp ad fm (vr t i) :: st'.map (pm_mp ad fm)))
        rw [pm_mp_ref (by omega)]
        have hob : (t, i) ∈ pm_obs := pm_ob_of (ok_hd (ok_tl ok.2)) (by omega)
        obtain ⟨q0, -, hq0⟩ := pm_ws_at (ad := ad) (cA := cA) (h := h) hob
        rw [pm_cell_L (by omega) h3] at hq0
        obtain ⟨t0, ht0⟩ := pm_tys_at (cA := cA) hob h1
        rw [(pm_aty_of h3).2.1 rfl] at ht0
        rw [pm_len_in h2] at hin'
        exact va_lald hx hb hK hP q0 t0 hq0 ht0 hin' hdg g1
      · exact hop.elim
    · exact hop.elim
  · exact hop.elim
theorem sd_aald (F : pm_Fr p R s mm args c cells slots D cA ad fm A ex m) (hdg : decode (pm_by m) pc = .ok (.aaload, 1)) (hop : pm_aald False G m (pc + 1) ls st h) (hG : ∀ σ, G σ → σ.1 = m → pm_Ok σ → pm_At p l e R s mm args below meth c cells slots Q D cA ad fm A ex σ) (ok : pm_Ok (m, pc, ls, st, h)) :
    pm_At p l e R s mm args below meth c cells slots Q D cA ad fm A ex (m, pc, ls, st, h) := by
  obtain ⟨hx, hb, hml, hown, hts, hK, hX, hrf, hrl, hrc, hrs⟩ := F
  unfold pm_aald at hop
  split at hop
  · rename_i j t i st'
    split at hop
    · rename_i hI
      split at hop
      · rename_i hin
        intro H locs la hH hL
        have hin' := pm_inb_in hin
        obtain ⟨h1, h2, h3⟩ := pm_isW_of hI
        have hob : (t, i) ∈ pm_obs := pm_ob_of (ok_hd (ok_tl ok.2)) (by omega)
        rw [pm_len_in h2] at hin'
        have hj : j.toNatClampNeg < (pm_nth pm_at (t - 10) (9, 0)).2 := Nat.not_le.mp fun z => hin' (Or.inr z)
        obtain ⟨i2, e1, e2⟩ := tf_ar _ hob h1 h3 _ hj
        simp only at e1 e2
        have e3 := tf_tag _ e2
        simp only at e3
        have g1 := hG _ hop rfl ⟨ok.1, ok_push (ok_tl (ok_tl ok.2)) (by rw [e1]; simp) (by rw [e1]; exact Or.inl e2)⟩ H locs la hH hL
        obtain ⟨hP, hD, hS, hE⟩ := hH
        show W p l e R s mm args below meth c H locs cells slots Q (F0 mm pc la (.int j :: pm_mp ad fm (vr t i) :: st'.map (pm_mp ad fm)))
        rw [pm_mp_ref (by omega)]
        obtain ⟨q0, -, hq0⟩ := pm_ws_at (ad := ad) (cA := cA) (h := h) hob
        rw [pm_cell_R (by omega) h3] at hq0
        obtain ⟨t0, ht0⟩ := pm_tys_at (cA := cA) hob h1
        obtain ⟨C, hC⟩ := (pm_aty_of h3).2.2.2 rfl
        rw [hC] at ht0
        refine va_aldq hx hb hK hP q0 t0 hq0 ht0 hin' hdg ?_
        rw [List.map_cons, e1, pm_mp_ref (by omega)] at g1
        rw [e1]
        exact g1
      · exact hop.elim
    · exact hop.elim
  · exact hop.elim
theorem pm_cell_iast {t i k : Nat} {x : Int32} {a : Nat} (ht : ¬ t < 9) (hk : pm_ak t = a) (h1 : a ≠ 1) (h3 : a ≠ 3) : pm_cell ad cA (pm_sI h t i k x) t i = .inl (cA t i, (pm_nth pm_at (t - 10) (9, 0)).2, .inl (upd (h.1 t i) k x)) := by
  rw [pm_cell_I ht hk h1 h3]
  have e0 : (pm_sI h t i k x).1 t i = upd (h.1 t i) k x := by
    funext j
    rw [pm_sI_at]
    unfold upd
    by_cases hj : j = k
    · simp [hj]
    · simp [hj]
  rw [e0]
theorem sd_iast (F : pm_Fr p R s mm args c cells slots D cA ad fm A ex m) (hdg : decode (pm_by m) pc = .ok (.iastore, 1)) (hop : pm_iast False G m (pc + 1) ls st h) (hG : ∀ σ, G σ → σ.1 = m → pm_Ok σ → pm_At p l e R s mm args below meth c cells slots Q D cA ad fm A ex σ) (ok : pm_Ok (m, pc, ls, st, h)) :
    pm_At p l e R s mm args below meth c cells slots Q D cA ad fm A ex (m, pc, ls, st, h) := by
  obtain ⟨hx, hb, hml, hown, hts, hK, hX, hrf, hrl, hrc, hrs⟩ := F
  unfold pm_iast at hop
  split at hop
  · rename_i x j t i st'
    split at hop
    · rename_i hI
      split at hop
      · rename_i hin
        intro H locs la hH hL
        obtain ⟨hP, hD, hS, hE⟩ := hH
        have hin' := pm_inb_in hin
        obtain ⟨h1, h2, h3⟩ := pm_isW_of hI
        show W p l e R s mm args below meth c H locs cells slots Q (F0 mm pc la (.int x :: .int j :: pm_mp ad fm (vr t i) :: st'.map (pm_mp ad fm)))
        rw [pm_mp_ref (by omega)]
        have hob : (t, i) ∈ pm_obs := pm_ob_of (ok_hd (ok_tl (ok_tl ok.2))) (by omega)
        obtain ⟨q0, hq1, hq0⟩ := pm_ws_at (ad := ad) (cA := cA) (h := h) hob
        rw [pm_cell_I (by omega) h3 (by decide) (by decide)] at hq0
        obtain ⟨t0, ht0⟩ := pm_tys_at (cA := cA) hob h1
        rw [(pm_aty_of h3).1 rfl] at ht0
        rw [pm_len_in h2] at hin'
        refine va_iast hx hb hK hP hD hS q0 t0 hq0 ht0 hin' hdg (fun H1 locs1 hP1 hD1 hS1 => ?_)
        rw [pm_ws_set hq1 pm_cell_sI (pm_cell_iast (by omega) h3 (by decide) (by decide))] at hP1 hD1
        exact hG _ hop rfl ⟨ok.1, ok_tl (ok_tl (ok_tl ok.2))⟩ H1 locs1 la ⟨hP1, hD1, hS1, pm_ex_sI hE (by omega) x⟩ hL
      · exact hop.elim
    · exact hop.elim
  · exact hop.elim
theorem sd_bast (F : pm_Fr p R s mm args c cells slots D cA ad fm A ex m) (hdg : decode (pm_by m) pc = .ok (.bastore, 1)) (hop : pm_bast False G m (pc + 1) ls st h) (hG : ∀ σ, G σ → σ.1 = m → pm_Ok σ → pm_At p l e R s mm args below meth c cells slots Q D cA ad fm A ex σ) (ok : pm_Ok (m, pc, ls, st, h)) :
    pm_At p l e R s mm args below meth c cells slots Q D cA ad fm A ex (m, pc, ls, st, h) := by
  obtain ⟨hx, hb, hml, hown, hts, hK, hX, hrf, hrl, hrc, hrs⟩ := F
  unfold pm_bast at hop
  split at hop
  · rename_i x j t i st'
    split at hop
    · rename_i hI
      split at hop
      · rename_i hin
        intro H locs la hH hL
        obtain ⟨hP, hD, hS, hE⟩ := hH
        have hin' := pm_inb_in hin
        obtain ⟨h1, h2, h3⟩ := pm_isW_of hI
        show W p l e R s mm args below meth c H locs cells slots Q (F0 mm pc la (.int x :: .int j :: pm_mp ad fm (vr t i) :: st'.map (pm_mp ad fm)))
        rw [pm_mp_ref (by omega)]
        have hob : (t, i) ∈ pm_obs := pm_ob_of (ok_hd (ok_tl (ok_tl ok.2))) (by omega)
        obtain ⟨q0, hq1, hq0⟩ := pm_ws_at (ad := ad) (cA := cA) (h := h) hob
        rw [pm_cell_I (by omega) h3 (by decide) (by decide)] at hq0
        obtain ⟨t0, ht0⟩ := pm_tys_at (cA := cA) hob h1
        rw [(pm_aty_of h3).2.2.1 rfl] at ht0
        rw [pm_len_in h2] at hin'
        refine va_zast hx hb hK hP hD hS q0 t0 hq0 ht0 hin' hdg (fun H1 locs1 hP1 hD1 hS1 => ?_)
        rw [show vp_nar .boolean x = x &&& 1 from rfl, pm_ws_set hq1 pm_cell_sI (pm_cell_iast (by omega) h3 (by decide) (by decide))] at hP1 hD1
        exact hG _ hop rfl ⟨ok.1, ok_tl (ok_tl (ok_tl ok.2))⟩ H1 locs1 la ⟨hP1, hD1, hS1, pm_ex_sI hE (by omega) _⟩ hL
      · exact hop.elim
    · exact hop.elim
  · exact hop.elim
theorem pm_cell_last {t i k : Nat} {x : Int64} (ht : ¬ t < 9) (hk : pm_ak t = 1) : pm_cell ad cA (pm_sL h t i k x) t i = .inl (cA t i, (pm_nth pm_at (t - 10) (9, 0)).2, .inr (.inl (vp_updL (h.2 t i) k x))) := by
  rw [pm_cell_L ht hk]
  have e0 : (pm_sL h t i k x).2 t i = vp_updL (h.2 t i) k x := by
    funext j
    rw [pm_sL_at]
    unfold vp_updL
    by_cases hj : j = k
    · simp [hj]
    · simp [hj]
  rw [e0]
theorem sd_last (F : pm_Fr p R s mm args c cells slots D cA ad fm A ex m) (hdg : decode (pm_by m) pc = .ok (.lastore, 1)) (hop : pm_last False G m (pc + 1) ls st h) (hG : ∀ σ, G σ → σ.1 = m → pm_Ok σ → pm_At p l e R s mm args below meth c cells slots Q D cA ad fm A ex σ) (ok : pm_Ok (m, pc, ls, st, h)) :
    pm_At p l e R s mm args below meth c cells slots Q D cA ad fm A ex (m, pc, ls, st, h) := by
  obtain ⟨hx, hb, hml, hown, hts, hK, hX, hrf, hrl, hrc, hrs⟩ := F
  unfold pm_last at hop
  split at hop
  · rename_i x j t i st'
    split at hop
    · rename_i hI
      split at hop
      · rename_i hin
        intro H locs la hH hL
        obtain ⟨hP, hD, hS, hE⟩ := hH
        have hin' := pm_inb_in hin
        obtain ⟨h1, h2, h3⟩ := pm_isW_of hI
        show W p l e R s mm args below meth c H locs cells slots Q (F0 mm pc la (.long x :: .int j :: pm_mp ad fm (vr t i) :: st'.map (pm_mp ad fm)))
        rw [pm_mp_ref (by omega)]
        have hob : (t, i) ∈ pm_obs := pm_ob_of (ok_hd (ok_tl (ok_tl ok.2))) (by omega)
        obtain ⟨q0, hq1, hq0⟩ := pm_ws_at (ad := ad) (cA := cA) (h := h) hob
        rw [pm_cell_L (by omega) h3] at hq0
        obtain ⟨t0, ht0⟩ := pm_tys_at (cA := cA) hob h1
        rw [(pm_aty_of h3).2.1 rfl] at ht0
        rw [pm_len_in h2] at hin'
        refine va_last hx hb hK hP hD hS q0 t0 hq0 ht0 hin' hdg (fun H1 locs1 hP1 hD1 hS1 => ?_)
        rw [pm_ws_set hq1 pm_cell_sL (pm_cell_last (by omega) h3)] at hP1 hD1
        exact hG _ hop rfl ⟨ok.1, ok_tl (ok_tl (ok_tl ok.2))⟩ H1 locs1 la ⟨hP1, hD1, hS1, hE⟩ hL
      · exact hop.elim
    · exact hop.elim
  · exact hop.elim
theorem sd_alen (F : pm_Fr p R s mm args c cells slots D cA ad fm A ex m) (hdg : decode (pm_by m) pc = .ok (.arraylength, 1)) (hop : pm_alen False G m (pc + 1) ls st h) (hG : ∀ σ, G σ → σ.1 = m → pm_Ok σ → pm_At p l e R s mm args below meth c cells slots Q D cA ad fm A ex σ) (ok : pm_Ok (m, pc, ls, st, h)) :
    pm_At p l e R s mm args below meth c cells slots Q D cA ad fm A ex (m, pc, ls, st, h) := by
  obtain ⟨hx, hb, hml, hown, hts, hK, hX, hrf, hrl, hrc, hrs⟩ := F
  obtain ⟨-, ⟨x1, x2, x3⟩, ⟨-, z0⟩, ⟨-, z1⟩, ⟨-, z2⟩, -, -, hStr, -⟩ := hX
  unfold pm_alen at hop
  split at hop
  · rename_i t i st'
    split at hop
    · rename_i hI
      intro H locs la hH hL
      have g1 := hG _ hop rfl ⟨ok.1, ok_push (ok_tl ok.2) (by simp) trivial⟩ H locs la hH hL
      obtain ⟨hP, hD, hS, hE⟩ := hH
      have hoq := ok_hd ok.2
      have hcase : (10 ≤ t ∧ t < 44) ∨ t = 61 ∨ t = 62 ∨ t = 63 ∨ t = 64 ∨ t = 65 := by
        simp only [Bool.or_eq_true, beq_iff_eq] at hI
        rcases hI with (((q | q) | q) | q) | q
        · have := pm_isI_of q; omega
        · have := pm_isW_of q; omega
        · have := pm_isW_of q; omega
        · have := pm_isW_of q; omega
        · omega
      show W p l e R s mm args below meth c H locs cells slots Q (F0 mm pc la (pm_mp ad fm (vr t i) :: st'.map (pm_mp ad fm)))
      rw [pm_mp_ref (by omega)]
      rcases hcase with ⟨h1, h2⟩ | h1
      · have hob : (t, i) ∈ pm_obs := pm_ob_of hoq (by omega)
        obtain ⟨q0, -, hq0⟩ := pm_ws_at (ad := ad) (cA := cA) (h := h) hob
        obtain ⟨t0, ht0⟩ := pm_tys_at (cA := cA) hob h1
        unfold pm_cell at hq0
        rw [if_neg (by omega)] at hq0
        exact va_alen hx hb hK hP q0 t0 hq0 ht0 (by rw [pm_len_in h2]) hdg g1
      · have hi0 : t ≠ 61 → i = 0 := fun hne => by
          rcases hoq with q | ⟨q, -⟩ | ⟨-, -, q⟩ | q
          · have := tf_tag _ q; simp only at this; omega
          · omega
          · exact q
          · omega
        rcases h1 with h1 | h1 | h1 | h1 | h1
        · subst h1
          have hi21 : i < 21 := by
            rcases hoq with q | ⟨-, q⟩ | ⟨q, -, -⟩ | q
            · have := tf_tag _ q; simp only at this; omega
            · exact q
            · omega
            · omega
          exact va_tlen hx hb (hStr i hi21).2.2.2 hS rfl hdg g1
        · have hi := hi0 (by omega); subst hi; subst h1
          exact va_tlen hx hb z0 hS rfl hdg g1
        · have hi := hi0 (by omega); subst hi; subst h1
          exact va_tlen hx hb z1 hS rfl hdg g1
        · have hi := hi0 (by omega); subst hi; subst h1
          exact va_tlen hx hb z2 hS rfl hdg g1
        · have hi := hi0 (by omega); subst hi; subst h1
          have e6 : pm_len h 65 0 = (ex 66 0 0).toNatClampNeg := by rw [← hE 66 (by decide)]; rfl
          refine va_slen hx hb x1 x2 x3 hS hdg ?_
          rw [← e6]
          exact g1
    · exact hop.elim
  · exact hop.elim
end PMA
end
section
section PMT
variable {p : Program} {l : Launch} {e : Env} {R : Room} {s : State} {mm : MethodId} {args : Array Value} {below : List Frame} {meth : Method} {c : Code} {cells slots : Nat} {Q : State → Prop}
variable {D : va_G} {cA : Nat → Nat → ClassId} {ad : Nat → Nat → Nat} {fm : Value} {A : Nat → Prop} {ex : Nat → Nat → Nat → Int32}
variable {m pc : Nat} {ls st : List PV} {h : PH} {G : PS → Prop} {Rt : PR → Prop} {Cl : PS → PC → Prop}
theorem pm_tg_ok {pc : Nat} {o : Int} (h : decide (0 ≤ (pc : Int) + o) = true) : (pc : Int) + o = (pm_tg pc o : Int) := by
  unfold pm_tg
  have := of_decide_eq_true h
  omega
/-- how a frame ends -/
def pm_RtW (p : Program) (l : Launch) (e : Env) (R : Room) (s : State) (mm : MethodId) (args : Array Value) (below : List Frame) (meth : Method) (c : Code) (cells slots : Nat) (Q : State → Prop) (D : va_G) (cA : Nat → Nat → ClassId) (ad : Nat → Nat → Nat) (fm : Value) (A : Nat → Prop) (ex : Nat → Nat → Nat → Int32) (m : Nat) (r : PR) : Prop :=
  ∀ (H : Heap) (locs : List Loc) (la : Array Slot) (pc0 : Nat), pm_HR s D cA ad A ex r.2 H locs →
    (∀ x : Int32, r.1 = some (vi x) → pm_nar (pm_ret m) x = x → (pm_ret m = 1 ∨ pm_ret m = 2 ∨ pm_ret m = 5 ∨ pm_ret m = 6) → decode (pm_by m) pc0 = .ok (.ireturn, 1) → W p l e R s mm args below meth c H locs cells slots Q (F0 mm pc0 la [.int x])) ∧
    (∀ x : Int64, r.1 = some (vl x) → pm_ret m = 3 → decode (pm_by m) pc0 = .ok (.lreturn, 1) → W p l e R s mm args below meth c H locs cells slots Q (F0 mm pc0 la [.long x])) ∧
    (∀ x : Option (Nat × Nat), r.1 = some (some (.inr (.inr x))) → pm_ret m = 4 → pm_okv (some (.inr (.inr x))) → decode (pm_by m) pc0 = .ok (.areturn, 1) → W p l e R s mm args below meth c H locs cells slots Q (F0 mm pc0 la [pm_mp ad fm (some (.inr (.inr x)))])) ∧
    (r.1 = none → pm_ret m = 0 → decode (pm_by m) pc0 = .ok (.return_, 1) → W p l e R s mm args below meth c H locs cells slots Q (F0 mm pc0 la []))
theorem pm_At_mk {kp : Option (List Bool)} (hk : ∀ bs, kp = some bs → bs.length = pm_mxl m) (hA : pm_At p l e R s mm args below meth c cells slots Q D cA ad fm A ex (m, pc, pm_mk kp ls, st, h)) : pm_At p l e R s mm args below meth c cells slots Q D cA ad fm A ex (m, pc, ls, st, h) := by
  intro H locs la hH hL
  refine hA H locs la hH ⟨hL.1, hL.2.1, ?_, fun i v hv hn => hL.2.2.2 i v (pm_mk_get hv hn) hn⟩
  have h1 : ls.length = pm_mxl m := hL.2.2.1
  show (pm_mk kp ls).length = pm_mxl m
  unfold pm_mk
  split
  · exact h1
  · rename_i bs
    rw [List.length_zipWith, hk bs rfl, h1, Nat.min_self]
theorem fb_ofI' {z : Int} (h1 : -2147483648 ≤ z) (h2 : z < 2147483648) : (Int32.ofInt z).toInt = z := by
  rw [Int32.toInt_ofInt]
  show z.bmod (2 ^ 32) = z
  exact Int.bmod_eq_of_le (by omega) (by omega)
theorem pm_ls_off {pc : Nat} {d x : Int} {l : List (Int × Int)} (h1 : decide (0 ≤ (pc : Int) + d) = true) (h2 : ∀ o ∈ l, decide (0 ≤ (pc : Int) + o.2) = true) : decide (0 ≤ (pc : Int) + Op.lookupswitch.offset l d x) = true := by
  induction l with
  | nil => exact h1
  | cons a r ih =>
    obtain ⟨b, o⟩ := a
    by_cases hx : b = x
    · have : Op.lookupswitch.offset ((b, o) :: r) d x = o := by simp [Op.lookupswitch.offset, hx]
      rw [this]
      exact h2 (b, o) List.mem_cons_self
    · have : Op.lookupswitch.offset ((b, o) :: r) d x = Op.lookupswitch.offset r d x := by simp [Op.lookupswitch.offset, hx]
      rw [this]
      exact ih (fun q hq => h2 q (List.mem_cons_of_mem _ hq))
theorem pm_sw_at (G0 : Int → Prop) (x : Int32) : ∀ (l : List Int) (a d : Int), -2147483648 ≤ a → a + l.length ≤ 2147483648 → pm_sw G0 x a l d → (x.toInt < a ∨ a + l.length ≤ x.toInt → G0 d) ∧ (∀ o, a ≤ x.toInt → x.toInt < a + l.length → l[(x.toInt - a).toNat]? = some o → G0 o)
  | [], a, d, _, _, hs => ⟨fun _ => hs, fun o h1 h2 => by simp at h2; omega⟩
  | o :: r, a, d, h1, h2, hs => by
    unfold pm_sw at hs
    have hl : ((o :: r).length : Int) = r.length + 1 := by simp
    split at hs
    · rename_i hx
      have e0 : x.toInt = a := by rw [hx]; exact fb_ofI' h1 (by omega)
      refine ⟨fun q => by omega, fun o' _ _ q => ?_⟩
      rw [e0] at q
      have e1 : (a - a).toNat = 0 := by omega
      rw [e1] at q
      have q : o = o' := by simpa using q
      rw [← q]
      exact hs
    · rename_i hx
      have hne : x.toInt ≠ a := fun q => hx (by rw [← q]; exact (Int32.ofInt_toInt x).symm)
      obtain ⟨i1, i2⟩ := pm_sw_at G0 x r (a + 1) d (by omega) (by omega) hs
      refine ⟨fun q => i1 (by omega), fun o' q1 q2 q => i2 o' (by omega) (by omega) ?_⟩
      have e1 : (x.toInt - a).toNat = (x.toInt - (a + 1)).toNat + 1 := by omega
      rw [e1] at q
      simpa using q
theorem pm_ls_at (G0 : Int → Prop) (x : Int32) : ∀ (l : List (Int × Int)) (d : Int), l.all (fun a => decide (-2147483648 ≤ a.1 ∧ a.1 < 2147483648)) = true → pm_ls G0 x l d → G0 (Op.lookupswitch.offset l d x.toInt)
  | [], d, _, hs => hs
  | (a, o) :: r, d, h1, hs => by
    rw [List.all_cons, Bool.and_eq_true, decide_eq_true_eq] at h1
    unfold pm_ls at hs
    split at hs
    · rename_i hx
      have e0 : x.toInt = a := by rw [hx]; exact fb_ofI' h1.1.1 h1.1.2
      rw [e0]
      simpa [Op.lookupswitch.offset] using hs
    · rename_i hx
      have hne : ¬ x = Int32.ofInt a := hx
      rw [lv_osw (k := Int32.ofInt a) hne (fb_ofI' h1.1.1 h1.1.2)]
      exact pm_ls_at G0 x r d h1.2 hs
set_option maxHeartbeats 4000000 in
theorem pm_step1 (F : pm_Fr p R s mm args c cells slots D cA ad fm A ex m) (hop0 : pm_st False G Rt Cl (m, pc, ls, st, h)) (hG : ∀ σ, G σ → σ.1 = m → pm_Ok σ → pm_At p l e R s mm args below meth c cells slots Q D cA ad fm A ex σ)
    (hR : ∀ r, Rt r → pm_RtW p l e R s mm args below meth c cells slots Q D cA ad fm A ex m r)
    (hC : ∀ (v : Bool) (idx : Nat) (ls' : List PV), decode (pm_by m) pc = .ok ((match v with | true => .invokevirtual idx | false => .invokestatic idx), 3) → pm_inv False G Cl v idx m (pc + 3) ls' st h → pm_Ok (m, pc, ls', st, h) → pm_At p l e R s mm args below meth c cells slots Q D cA ad fm A ex (m, pc, ls', st, h))
    (ok0 : pm_Ok (m, pc, ls, st, h)) : pm_At p l e R s mm args below meth c cells slots Q D cA ad fm A ex (m, pc, ls, st, h) := by
  have hx := F.1
  have hb := F.2.1
  have hown := F.2.2.2.1
  have hts := F.2.2.2.2.1
  have hX := F.2.2.2.2.2.2.1
  have hfm := hX.1
  unfold pm_st at hop0
  dsimp only at hop0
  cases hf : pm_fetch m pc with
  | none => rw [hf] at hop0; exact hop0.elim
  | some q =>
  obtain ⟨ins, n, kp⟩ := q
  rw [hf] at hop0
  dsimp only at hop0
  obtain ⟨hdg, hn, hkp⟩ := tf_dec hf
  have htk := tf_tok hf
  refine pm_At_mk hkp ?_
  have ok : pm_Ok (m, pc, pm_mk kp ls, st, h) := ⟨pm_mk_ok ok0.1 trivial kp, ok0.2⟩
  generalize pm_mk kp ls = ls at hop0 ok ⊢
  cases ins
  all_goals try (exact (show False from hop0).elim)
  all_goals (have hop := hop0)
  all_goals try (replace hn := hn.resolve_left (fun z => absurd z (Nat.succ_ne_zero _)); dsimp only [pm_il] at hn; subst hn)
  all_goals (unfold pm_op at hop; dsimp only at hop)
  case iconst v => exact fun H locs la hH hL => lv_iconst hx hb hdg rfl (hG _ hop rfl ⟨ok.1, ok_push ok.2 (by simp) trivial⟩ H locs la hH hL)
  case bipush v => exact fun H locs la hH hL => lv_bipush hx hb hdg rfl (hG _ hop rfl ⟨ok.1, ok_push ok.2 (by simp) trivial⟩ H locs la hH hL)
  case sipush v => exact fun H locs la hH hL => lv_sipush hx hb hdg rfl (hG _ hop rfl ⟨ok.1, ok_push ok.2 (by simp) trivial⟩ H locs la hH hL)
  case lconst v => exact fun H locs la hH hL => lv_lconst hx hb hdg rfl (hG _ hop rfl ⟨ok.1, ok_push ok.2 (by simp) trivial⟩ H locs la hH hL)
  case iload i => exact sd_ild hop hG ok (fun x H locs la q k => lv_iload hx hb hdg q k)
  case iload_n i => exact sd_ild hop hG ok (fun x H locs la q k => lv_iload_n hx hb hdg rfl q k)
  case lload i => exact sd_lld hop hG ok (fun x H locs la q k => lv_lload hx hb hdg q k)
  case lload_n i => exact sd_lld hop hG ok (fun x H locs la q k => lv_lload_n hx hb hdg rfl q k)
  case aload i => exact sd_ald hfm hop hG ok (fun x H locs la q k => lv_aload hx hb hdg q k) (fun H locs la q k => lv_aloadN hx hb hdg q k)
  case aload_n i => exact sd_ald hfm hop hG ok (fun x H locs la q k => lv_aload_n hx hb hdg rfl q k) (fun H locs la q k => lv_aload_nN hx hb hdg rfl q k)
  case istore i => exact sd_ist hfm hop hG ok (fun x rest H locs la lv lv' a b d k => lv_istore hx hb hdg a b d k)
  case istore_n i => exact sd_ist hfm hop hG ok (fun x rest H locs la lv lv' a b d k => lv_istore_n hx hb hdg rfl a b d k)
  case lstore i => exact sd_lst hfm hop hG ok (fun x rest H locs la lv lv' a b d k => lv_lstore hx hb hdg a b d k)
  case lstore_n i => exact sd_lst hfm hop hG ok (fun x rest H locs la lv lv' a b d k => lv_lstore_n hx hb hdg rfl a b d k)
  case astore i => exact sd_ast hfm hop hG ok (fun x rest H locs la lv lv' a b d k => lv_astore hx hb hdg a b d k) (fun rest H locs la lv lv' a b d k => lv_astoreN hx hb hdg a b d k)
  case astore_n i => exact sd_ast hfm hop hG ok (fun x rest H locs la lv lv' a b d k => lv_astore_n hx hb hdg rfl a b d k) (fun rest H locs la lv lv' a b d k => lv_astore_nN hx hb hdg rfl a b d k)
  case iinc i v =>
    split at hop
    · rename_i x hxx
      intro H locs la hH hL
      have hi' : i < pm_mxl m := by rw [← hL.2.2.1]; exact (List.getElem?_eq_some_iff.mp hxx).1
      have hmem : (i, pm_mp ad fm (vi x)) ∈ pm_lv ad fm ls := pm_lv_mem.mpr ⟨_, hxx, rfl⟩
      obtain ⟨k, hk⟩ := List.mem_iff_getElem?.mp hmem
      refine lv_iinc hx hb hdg hL.has hk rfl hi' rfl fun la' hl' => ?_
      exact hG _ hop rfl ⟨pm_s1_ok ok.1 trivial (pm_okv_i _) i, ok.2⟩ H locs la' hH (pm_LR.of (by show (pm_s1 ls i _).length = pm_mxl m; rw [pm_s1_len]; exact hL.2.2.1) hl' (fun q hq => pm_s1_lv hfm hq))
    · exact hop.elim
  case iadd => exact sd_b2 hop hG ok (fun x y rest H locs la k => lv_iadd hx hb hdg k)
  case isub => exact sd_b2 hop hG ok (fun x y rest H locs la k => lv_isub hx hb hdg k)
  case imul => exact sd_b2 hop hG ok (fun x y rest H locs la k => lv_imul hx hb hdg k)
  case iand => exact sd_b2 hop hG ok (fun x y rest H locs la k => lv_iand hx hb hdg k)
  case ior => exact sd_b2 hop hG ok (fun x y rest H locs la k => lv_ior hx hb hdg k)
  case ixor => exact sd_b2 hop hG ok (fun x y rest H locs la k => lv_ixor hx hb hdg k)
  case ishl => exact sd_b2 hop hG ok (fun x y rest H locs la k => lv_ishl hx hb hdg k)
  case ishr => exact sd_b2 hop hG ok (fun x y rest H locs la k => lv_ishr hx hb hdg k)
  case iushr => exact sd_b2 hop hG ok (fun x y rest H locs la k => lv_iushr hx hb hdg rfl k)
  case idiv =>
    split at hop
    · rename_i y x st'
      split at hop
      · exact hop.elim
      · rename_i hne
        exact fun H locs la hH hL => lv_idiv hx hb hdg hne (hG _ hop rfl ⟨ok.1, ok_push (ok_tl (ok_tl ok.2)) (by simp) trivial⟩ H locs la hH hL)
    · exact hop.elim
  case irem =>
    split at hop
    · rename_i y x st'
      split at hop
      · exact hop.elim
      · rename_i hne
        exact fun H locs la hH hL => lv_irem hx hb hdg hne (hG _ hop rfl ⟨ok.1, ok_push (ok_tl (ok_tl ok.2)) (by simp) trivial⟩ H locs la hH hL)
    · exact hop.elim
  case ineg => exact sd_b1 hop hG ok (fun x rest H locs la k => lv_ineg hx hb hdg k)
  case i2c => exact sd_b1 hop hG ok (fun x rest H locs la k => lv_i2c hx hb hdg rfl k)
  case ladd => exact sd_l2 hop hG ok (fun x y rest H locs la k => lv_ladd hx hb hdg k)
  case lsub => exact sd_l2 hop hG ok (fun x y rest H locs la k => lv_lsub hx hb hdg k)
  case lmul => exact sd_l2 hop hG ok (fun x y rest H locs la k => lv_lmul hx hb hdg k)
  case land => exact sd_l2 hop hG ok (fun x y rest H locs la k => lv_land hx hb hdg k)
  case lor => exact sd_l2 hop hG ok (fun x y rest H locs la k => lv_lor hx hb hdg k)
  case lxor => exact sd_l2 hop hG ok (fun x y rest H locs la k => lv_lxor hx hb hdg k)
  case ldiv =>
    split at hop
    · rename_i y x st'
      split at hop
      · exact hop.elim
      · rename_i hne
        exact fun H locs la hH hL => lv_ldiv hx hb hdg hne (hG _ hop rfl ⟨ok.1, ok_push (ok_tl (ok_tl ok.2)) (by simp) trivial⟩ H locs la hH hL)
    · exact hop.elim
  case lrem =>
    split at hop
    · rename_i y x st'
      split at hop
      · exact hop.elim
      · rename_i hne
        exact fun H locs la hH hL => lv_lrem hx hb hdg hne (hG _ hop rfl ⟨ok.1, ok_push (ok_tl (ok_tl ok.2)) (by simp) trivial⟩ H locs la hH hL)
    · exact hop.elim
  case lshl => exact sd_lsh hop hG ok (fun x y rest H locs la k => lv_lshl hx hb hdg rfl k)
  case lushr => exact sd_lsh hop hG ok (fun x y rest H locs la k => lv_lushr hx hb hdg rfl k)
  case i2l =>
    split at hop
    · exact fun H locs la hH hL => lv_i2l hx hb hdg rfl (hG _ hop rfl ⟨ok.1, ok_push (ok_tl ok.2) (by simp) trivial⟩ H locs la hH hL)
    · exact hop.elim
  case l2i =>
    split at hop
    · exact fun H locs la hH hL => lv_l2i hx hb hdg rfl (hG _ hop rfl ⟨ok.1, ok_push (ok_tl ok.2) (by simp) trivial⟩ H locs la hH hL)
    · exact hop.elim
  case lcmp =>
    split at hop
    · exact fun H locs la hH hL => W.lcmp hx hb hdg (hG _ hop rfl ⟨ok.1, ok_push (ok_tl (ok_tl ok.2)) (by simp) trivial⟩ H locs la hH hL)
    · exact hop.elim
  case dup =>
    split at hop
    · split at hop
      · rename_i hc
        exact fun H locs la hH hL => lv_dup hx hb hdg (by rw [pm_cat_mp hfm]; exact hc) (hG _ hop rfl ⟨ok.1, ok_push ok.2 (by simp) (ok_hd ok.2)⟩ H locs la hH hL)
      · exact hop.elim
    · exact hop.elim
  case pop =>
    split at hop
    · split at hop
      · rename_i hc
        exact fun H locs la hH hL => lv_pop hx hb hdg (by rw [pm_cat_mp hfm]; exact hc) (hG _ hop rfl ⟨ok.1, ok_tl ok.2⟩ H locs la hH hL)
      · exact hop.elim
    · exact hop.elim
  case dup2 =>
    split at hop
    · rename_i v w st'
      split at hop
      · rename_i hc
        exact fun H locs la hH hL => lv_dup2_11 hx hb hdg (by rw [pm_cat_mp hfm]; exact hc.1) (by rw [pm_cat_mp hfm]; exact hc.2) (hG _ hop rfl ⟨ok.1, ok_push (ok_push ok.2 (by simp) (ok_hd (ok_tl ok.2))) (by simp) (ok_hd ok.2)⟩ H locs la hH hL)
      · split at hop
        · rename_i hc
          exact fun H locs la hH hL => lv_dup2_2 hx hb hdg (by rw [pm_cat_mp hfm]; exact hc) (hG _ hop rfl ⟨ok.1, ok_push ok.2 (by simp) (ok_hd ok.2)⟩ H locs la hH hL)
        · exact hop.elim
    · split at hop
      · rename_i hc
        exact fun H locs la hH hL => lv_dup2_2 hx hb hdg (by rw [pm_cat_mp hfm]; exact hc) (hG _ hop rfl ⟨ok.1, ok_push ok.2 (by simp) (ok_hd ok.2)⟩ H locs la hH hL)
      · exact hop.elim
    · exact hop.elim
  case ifCond cd off =>
    have ht := pm_tg_ok htk
    cases cd
    case eq => exact sd_if1 hop hG ok (fun x rest H locs la k1 k2 => lv_if_eq hx hb hdg ht (fun q => k1 (decide_eq_true q)) (fun q => k2 (fun z => q (of_decide_eq_true z))))
    case ne => exact sd_if1 hop hG ok (fun x rest H locs la k1 k2 => lv_if_ne hx hb hdg ht (fun q => k1 (decide_eq_true q)) (fun q => k2 (fun z => (of_decide_eq_true z) q)))
    case lt => exact sd_if1 hop hG ok (fun x rest H locs la k1 k2 => lv_if_lt hx hb hdg ht (fun q => k1 (decide_eq_true q)) (fun q => k2 (fun z => q (of_decide_eq_true z))))
    case ge => exact sd_if1 hop hG ok (fun x rest H locs la k1 k2 => lv_if_ge hx hb hdg ht (fun q => k1 (decide_eq_true q)) (fun q => k2 (fun z => q (of_decide_eq_true z))))
    case gt => exact sd_if1 hop hG ok (fun x rest H locs la k1 k2 => lv_if_gt hx hb hdg ht (fun q => k1 (decide_eq_true q)) (fun q => k2 (fun z => q (of_decide_eq_true z))))
    case le => exact sd_if1 hop hG ok (fun x rest H locs la k1 k2 => lv_if_le hx hb hdg ht (fun q => k1 (decide_eq_true q)) (fun q => k2 (fun z => q (of_decide_eq_true z))))
  case if_icmp cd off =>
    have ht := pm_tg_ok htk
    cases cd
    case eq => exact sd_if2 hop hG ok (fun x y rest H locs la k1 k2 => lv_icmp_eq hx hb hdg ht (fun q => k1 (decide_eq_true q)) (fun q => k2 (fun z => q (of_decide_eq_true z))))
    case ne => exact sd_if2 hop hG ok (fun x y rest H locs la k1 k2 => lv_icmp_ne hx hb hdg ht (fun q => k1 (decide_eq_true q)) (fun q => k2 (fun z => (of_decide_eq_true z) q)))
    case lt => exact sd_if2 hop hG ok (fun x y rest H locs la k1 k2 => lv_icmp_lt hx hb hdg ht (fun q => k1 (decide_eq_true q)) (fun q => k2 (fun z => q (of_decide_eq_true z))))
    case ge => exact sd_if2 hop hG ok (fun x y rest H locs la k1 k2 => lv_icmp_ge hx hb hdg ht (fun q => k1 (decide_eq_true q)) (fun q => k2 (fun z => q (of_decide_eq_true z))))
    case gt => exact sd_if2 hop hG ok (fun x y rest H locs la k1 k2 => lv_icmp_gt hx hb hdg ht (fun q => k1 (decide_eq_true q)) (fun q => k2 (fun z => q (of_decide_eq_true z))))
    case le => exact sd_if2 hop hG ok (fun x y rest H locs la k1 k2 => lv_icmp_le hx hb hdg ht (fun q => k1 (decide_eq_true q)) (fun q => k2 (fun z => q (of_decide_eq_true z))))
  case goto off => exact fun H locs la hH hL => lv_goto hx hb hdg (pm_tg_ok htk) (hG _ hop rfl ⟨ok.1, ok.2⟩ H locs la hH hL)
  case aconst_null => exact fun H locs la hH hL => lv_null hx hb hdg (hG _ hop rfl ⟨ok.1, ok_push ok.2 (by simp) trivial⟩ H locs la hH hL)
  case ifnull off =>
    split at hop
    · exact fun H locs la hH hL => lv_ifnullN hx hb hdg (pm_tg_ok htk) (hG _ hop rfl ⟨ok.1, ok_tl ok.2⟩ H locs la hH hL)
    · rename_i t i st'
      split at hop
      · exact hop.elim
      · rename_i h67
        intro H locs la hH hL
        have g1 := hG _ hop rfl ⟨ok.1, ok_tl ok.2⟩ H locs la hH hL
        show W p l e R s mm args below meth c H locs cells slots Q (F0 mm pc la (pm_mp ad fm (vr t i) :: st'.map (pm_mp ad fm)))
        rw [pm_mp_ref h67]
        exact lv_ifnull hx hb hdg g1
    · exact hop.elim
  case ifnonnull off =>
    split at hop
    · exact fun H locs la hH hL => lv_ifnonnullN hx hb hdg (hG _ hop rfl ⟨ok.1, ok_tl ok.2⟩ H locs la hH hL)
    · rename_i t i st'
      split at hop
      · exact hop.elim
      · rename_i h67
        intro H locs la hH hL
        have g1 := hG _ hop rfl ⟨ok.1, ok_tl ok.2⟩ H locs la hH hL
        show W p l e R s mm args below meth c H locs cells slots Q (F0 mm pc la (pm_mp ad fm (vr t i) :: st'.map (pm_mp ad fm)))
        rw [pm_mp_ref h67]
        exact lv_ifnonnull hx hb hdg (pm_tg_ok htk) g1
    · exact hop.elim
  case tableswitch d lo hi offs =>
    split at hop
    · rename_i x st'
      split at hop
      · rename_i hc
        obtain ⟨hc1, hc2, hc3⟩ := hc
        have hsz : (offs.toList.length : Int) = offs.size := by simp
        obtain ⟨g1, g2⟩ := pm_sw_at _ x offs.toList lo d hc2 (by omega) hop
        have htk2 : decide (0 ≤ (pc : Int) + d) = true ∧ ∀ o ∈ offs.toList, decide (0 ≤ (pc : Int) + o) = true := by
          have := htk
          unfold pm_tok at this
          simp only [Bool.and_eq_true, List.all_eq_true] at this
          exact this
        intro H locs la hH hL
        by_cases h1 : x.toInt < lo ∨ hi < x.toInt
        · exact lv_tableOut hx hb hdg h1 (pm_tg_ok htk2.1) (hG _ (g1 (by omega)) rfl ⟨ok.1, ok_tl ok.2⟩ H locs la hH hL)
        · have hlt : (x.toInt - lo).toNat < offs.toList.length := by omega
          have ho : offs.toList[(x.toInt - lo).toNat]? = some (offs.toList[(x.toInt - lo).toNat]) := List.getElem?_eq_getElem hlt
          refine lv_tableIn hx hb hdg (off := offs.toList[(x.toInt - lo).toNat]) (fun q => h1 (Or.inl q)) (fun q => h1 (Or.inr q)) (by rw [← Array.getElem?_toList]; exact ho) (pm_tg_ok (htk2.2 _ (List.getElem_mem hlt))) ?_
          exact hG _ (g2 _ (by omega) (by omega) ho) rfl ⟨ok.1, ok_tl ok.2⟩ H locs la hH hL
      · exact hop.elim
    · exact hop.elim
  case lookupswitch d ps =>
    split at hop
    · rename_i x st'
      split at hop
      · rename_i hc
        obtain ⟨hc1, hc2⟩ := hc
        have g1 := pm_ls_at _ x ps.toList d hc2 hop
        have htk2 : decide (0 ≤ (pc : Int) + d) = true ∧ ∀ o ∈ ps.toList, decide (0 ≤ (pc : Int) + o.2) = true := by
          have := htk
          unfold pm_tok at this
          simp only [Bool.and_eq_true, List.all_eq_true] at this
          exact this
        intro H locs la hH hL
        refine lv_lookup hx hb hdg (off := Op.lookupswitch.offset ps.toList d x.toInt) hc1 rfl (pm_tg_ok ?_) (hG _ g1 rfl ⟨ok.1, ok_tl ok.2⟩ H locs la hH hL)
        exact pm_ls_off htk2.1 htk2.2
      · exact hop.elim
    · exact hop.elim
  case getfield idx => exact sd_get F hdg hop hG ok
  case putfield idx => exact sd_put F hdg hop hG ok
  case getstatic idx => exact sd_gst F hdg hop hG ok
  case iaload => exact sd_iald F hdg hop hG ok
  case baload => exact sd_bald F hdg hop hG ok
  case laload => exact sd_lald F hdg hop hG ok
  case aaload => exact sd_aald F hdg hop hG ok
  case iastore => exact sd_iast F hdg hop hG ok
  case bastore => exact sd_bast F hdg hop hG ok
  case lastore => exact sd_last F hdg hop hG ok
  case arraylength => exact sd_alen F hdg hop hG ok
  case ldc idx =>
    split at hop
    · rename_i v hv
      exact fun H locs la hH hL => lv_ldc hx hb hown (hts _ (tf_ci hv)) hdg (hG _ hop rfl ⟨ok.1, ok_push ok.2 (by simp) trivial⟩ H locs la hH hL)
    · split at hop
      · rename_i i hi
        obtain ⟨i1, i2, i3⟩ := tf_cs hi
        intro H locs la hH hL
        have g1 := hG _ hop rfl ⟨ok.1, ok_push ok.2 (by simp) (Or.inr (Or.inl ⟨Or.inl rfl, i1⟩))⟩ H locs la hH hL
        rw [List.map_cons, pm_mp_ref (by decide)] at g1
        have hz := hX.2.2.2.2.2.2.2.2 i i1
        rw [i3, ← i2] at hz
        exact va_ldcS hx hb hown hz hdg g1
      · exact hop.elim
  case ldc_w idx =>
    split at hop
    · rename_i v hv
      exact fun H locs la hH hL => lv_ldcw hx hb hown (hts _ (tf_ci hv)) hdg (hG _ hop rfl ⟨ok.1, ok_push ok.2 (by simp) trivial⟩ H locs la hH hL)
    · exact hop.elim
  case ldc2_w idx =>
    split at hop
    · rename_i v hv
      exact fun H locs la hH hL => lv_ldc2 hx hb hown (hts _ (tf_cl hv)) hdg (hG _ hop rfl ⟨ok.1, ok_push ok.2 (by simp) trivial⟩ H locs la hH hL)
    · exact hop.elim
  case invokevirtual idx => exact hC true idx ls hdg hop ok
  case invokestatic idx => exact hC false idx ls hdg hop ok
  case ireturn =>
    split at hop
    · rename_i x
      split at hop
      · rename_i hc
        exact fun H locs la hH hL => (hR _ hop H locs la pc hH).1 x rfl (by rw [hc]; rfl) (Or.inl hc) hdg
      · rename_i hc
        split at hop
        · rename_i hv
          exact fun H locs la hH hL => (hR _ hop H locs la pc hH).1 x rfl (by rw [hc]; exact hv) (Or.inr (Or.inl hc)) hdg
        · exact hop.elim
      · rename_i hc
        split at hop
        · rename_i hv
          exact fun H locs la hH hL => (hR _ hop H locs la pc hH).1 x rfl (by rw [hc]; exact hv) (Or.inr (Or.inr (Or.inl hc))) hdg
        · exact hop.elim
      · rename_i hc
        split at hop
        · rename_i hv
          exact fun H locs la hH hL => (hR _ hop H locs la pc hH).1 x rfl (by rw [hc]; exact hv) (Or.inr (Or.inr (Or.inr hc))) hdg
        · exact hop.elim
      · exact hop.elim
    · exact hop.elim
  case lreturn =>
    split at hop
    · rename_i x
      split at hop
      · rename_i hc
        exact fun H locs la hH hL => (hR _ hop H locs la pc hH).2.1 x rfl hc hdg
      · exact hop.elim
    · exact hop.elim
  case areturn =>
    split at hop
    · rename_i x
      split at hop
      · rename_i hc
        exact fun H locs la hH hL => (hR _ hop H locs la pc hH).2.2.1 x rfl hc (ok_hd ok.2) hdg
      · exact hop.elim
    · exact hop.elim
  case return_ =>
    split at hop
    · split at hop
      · rename_i hc
        exact fun H locs la hH hL => (hR _ hop H locs la pc hH).2.2.2 rfl hc hdg
      · exact hop.elim
    · exact hop.elim
end PMT
end
section
section PMC
variable {l : Launch} {D : va_G} {cA : Nat → Nat → ClassId} {ad : Nat → Nat → Nat} {fm : Value} {A : Nat → Prop} {ex : Nat → Nat → Nat → Int32}
def pm_ws0 (m : Nat) : List Cond := Cond.code (pm_y m) (pm_by m) (pm_mxl m) (pm_rt0 m) :: pm_tb
def pm_rm (m : Nat) : Room := { frames := pm_fr m, cells := 0, slots := 0, locals := pm_lo m }
def pm_Pc (D : va_G) (cA : Nat → Nat → ClassId) (ad : Nat → Nat → Nat) (fm : Value) (A : Nat → Prop) (ex : Nat → Nat → Nat → Int32) (as : List PV) (h : PH) : Array Value → State → Prop := va_Pc (as.map (pm_mp ad fm)) fun U => va_P D vwCl (pm_ws ad cA h) U.heap ∧ va_D A (pm_ws ad cA h) ∧ va_K D vwCl (pm_tys cA) U ∧ pm_X ad fm A ex U
def pm_Qc (D : va_G) (cA : Nat → Nat → ClassId) (ad : Nat → Nat → Nat) (fm : Value) (A : Nat → Prop) (ex : Nat → Nat → Nat → Int32) (r : PR) : Array Value → State → Outcome → State → Prop := fun _ st o t => o = .returned (r.1.map (pm_mp ad fm)) ∧ va_P D vwCl (pm_ws ad cA r.2) t.heap ∧ va_F A st t ∧ (∀ t, 60 ≤ t → r.2.1 t = ex t) ∧ ∀ v, r.1 = some v → pm_okv v
/-- n steps of the simple machine are the machine's, in every frame -/
def pm_P (l : Launch) (D : va_G) (cA : Nat → Nat → ClassId) (ad : Nat → Nat → Nat) (fm : Value) (A : Nat → Prop) (ex : Nat → Nat → Nat → Int32) (n : Nat) : Prop :=
  ∀ (p : Program) (e : Env) (R : Room) (s : State) (mm : MethodId) (args : Array Value) (below : List Frame) (meth : Method) (c : Code) (cells slots : Nat) (Q : State → Prop) (m pc : Nat) (ls st : List PV) (h : PH) (r : PR), pm_Fr p R s mm args c cells slots D cA ad fm A ex m → pm_ex n (m, pc, ls, st, h) = some r → pm_Ok (m, pc, ls, st, h) → pm_RtW p l e R s mm args below meth c cells slots Q D cA ad fm A ex m r → pm_At p l e R s mm args below meth c cells slots Q D cA ad fm A ex (m, pc, ls, st, h)
theorem pm_loc_args (hfm : fm = .null ∨ ∃ a, fm = .ref a) : ∀ (as : List PV) (k i : Nat) (v : Int32 ⊕ (Int64 ⊕ Option (Nat × Nat))), (pm_loc as)[i]? = some (some v) → (k + i, pm_mp ad fm (some v)) ∈ lv_args k (as.map (pm_mp ad fm))
  | [], k, i, v, h => by simp [pm_loc] at h
  | a :: r, k, i, v, h => by
    have e0 : pm_loc (a :: r) = (if pm_cat a = 2 then [a, none] else [a]) ++ pm_loc r := rfl
    rw [e0] at h
    show (k + i, pm_mp ad fm (some v)) ∈ (k, pm_mp ad fm a) :: lv_args (if (pm_mp ad fm a).category = 2 then k + 2 else k + 1) (r.map (pm_mp ad fm))
    rw [pm_cat_mp hfm]
    by_cases hc : pm_cat a = 2
    · rw [if_pos hc] at h ⊢
      match i, h with
      | 0, h =>
        have h : a = some v := by simpa using h
        rw [h]
        exact List.mem_cons_self
      | 1, h => simp at h
      | j + 2, h =>
        have h : (pm_loc r)[j]? = some (some v) := by simpa using h
        have := pm_loc_args hfm r (k + 2) j v h
        refine List.mem_cons_of_mem _ ?_
        rw [show k + (j + 2) = k + 2 + j by omega]
        exact this
    · rw [if_neg hc] at h ⊢
      match i, h with
      | 0, h =>
        have h : a = some v := by simpa using h
        rw [h]
        exact List.mem_cons_self
      | j + 1, h =>
        have h : (pm_loc r)[j]? = some (some v) := by simpa using h
        have := pm_loc_args hfm r (k + 1) j v h
        refine List.mem_cons_of_mem _ ?_
        rw [show k + (j + 1) = k + 1 + j by omega]
        exact this
theorem pm_loc_len (hfm : fm = .null ∨ ∃ a, fm = .ref a) : ∀ as : List PV, (lg_sl (as.map (pm_mp ad fm))).length = (pm_loc as).length
  | [] => rfl
  | a :: r => by
    have e0 : pm_loc (a :: r) = (if pm_cat a = 2 then [a, none] else [a]) ++ pm_loc r := rfl
    have e1 : lg_sl ((a :: r).map (pm_mp ad fm)) = (if (pm_mp ad fm a).category = 2 then [.val (pm_mp ad fm a), .second] else [.val (pm_mp ad fm a)]) ++ lg_sl (r.map (pm_mp ad fm)) := rfl
    rw [e0, e1, pm_cat_mp hfm, List.length_append, List.length_append, pm_loc_len hfm r]
    by_cases hc : pm_cat a = 2
    · rw [if_pos hc, if_pos hc]; rfl
    · rw [if_neg hc, if_neg hc]; rfl
theorem pm_ent_LR (hfm : fm = .null ∨ ∃ a, fm = .ref a) {m : Nat} {as : List PV} (hl : (pm_loc as).length ≤ pm_mxl m) : pm_LR ad fm (pm_mxl m) (pm_ent m as) ((lg_sl (as.map (pm_mp ad fm)) ++ List.replicate (pm_mxl m - (lg_sl (as.map (pm_mp ad fm))).length) Slot.unset).toArray) := by
  refine pm_LR.of ?_ (lv_entry (as.map (pm_mp ad fm)) (n := pm_mxl m) (by rw [pm_loc_len hfm]; exact hl)) (fun q hq => ?_)
  · unfold pm_ent
    rw [List.length_append, List.length_replicate]
    omega
  · obtain ⟨v, hv, e0⟩ := pm_lv_mem.mp hq
    unfold pm_ent at hv
    rw [List.getElem?_append] at hv
    split at hv
    · have := pm_loc_args (ad := ad) hfm as 0 q.1 v hv
      rw [Nat.zero_add, ← e0] at this
      exact this
    · rw [List.getElem?_replicate] at hv
      split at hv
      · cases hv
      · cases hv
theorem pm_ent_ok {m : Nat} {as : List PV} (ha : ∀ v ∈ as, v ≠ none ∧ pm_okv v) : ∀ v ∈ pm_ent m as, pm_okv v := by
  intro v hv
  unfold pm_ent at hv
  rcases List.mem_append.mp hv with q | q
  · unfold pm_loc at q
    obtain ⟨a, h1, h2⟩ := List.mem_flatMap.mp q
    split at h2
    · rcases List.mem_cons.mp h2 with e | e
      · rw [e]; exact (ha a h1).2
      · rw [List.mem_singleton.mp e]; trivial
    · rw [List.mem_singleton.mp h2]; exact (ha a h1).2
  · rw [(List.mem_replicate.mp q).2]
    trivial
/-- a method's contract out of a run of the simple machine -/
theorem pm_met {n : Nat} (hP : pm_P l D cA ad fm A ex n) {m : Nat} {as : List PV} {h : PH} {r : PR} (hr : pm_ex n (m, 0, pm_ent m as, [], h) = some r) (hpl : plainName (pm_y m).cls = true) (hon : pm_on m = (pm_y m).cls) (ha : ∀ v ∈ as, v ≠ none ∧ pm_okv v) (hl : (pm_loc as).length ≤ pm_mxl m) (hE : ∀ t, 60 ≤ t → h.1 t = ex t) :
    Met l (pm_y m) (pm_ws0 m) (pm_rm m) (pm_Pc D cA ad fm A ex as h) (pm_Qc D cA ad fm A ex r) 0 0 A := by
  refine Met.ofW (cc := pm_by m) (maxL := pm_mxl m) (ret := pm_rt0 m) hpl rfl ?_
  intro p e s mm args below meth c s₁ B hml hv
  obtain ⟨rfl, hPw, hDw, hK, hX⟩ := hv
  have hts0 := atoms_spec (ws := pm_ws0 m) B.pre
  have hlocks := B.notSynchronized
  have hown : s.vm.findClass (pm_on m) = some mm.cls := by rw [hon]; exact findClass_of_methodNamed B.named
  have F : pm_Fr p (pm_rm m) s mm (as.map (pm_mp ad fm)).toArray c 0 0 D cA ad fm A ex m := ⟨B.exec, B.bytes, hml, hown, fun w hw => hts0 w (List.mem_cons_of_mem _ hw), hK, hX, Nat.le_refl _, Nat.le_refl _, Nat.le_refl _, Nat.le_refl _⟩
  have hrt := tf_ret m
  have hret := B.returns
  have hRt : pm_RtW p l e (pm_rm m) s mm (as.map (pm_mp ad fm)).toArray below meth c 0 0 (MQ below (pm_Qc D cA ad fm A ex r) (as.map (pm_mp ad fm)).toArray s 0 0 A) D cA ad fm A ex m r := by
    intro H locs la pc0 hH
    obtain ⟨hP1, hD1, hS1, hE1⟩ := hH
    refine ⟨fun x e1 e2 e3 e4 => ?_, fun x e1 e2 e3 => ?_, fun x e1 e2 e3 e4 => ?_, fun e1 e2 e3 => ?_⟩
    · have hq : ∀ t : State, t.heap = H → s.WarmedH t.vm → pm_Qc D cA ad fm A ex r (as.map (pm_mp ad fm)).toArray s (.returned (some (.int x))) t := fun t ht _ => ⟨by rw [e1]; rfl, by rw [ht]; exact hP1, hS1.F ht, hE1, fun v z => by rw [e1] at z; cases z; trivial⟩
      rcases e3 with q | q | q | q
      · exact W.iret B.exec B.bytes (by rw [hret]; exact hrt.2.1 q) hq hS1.2.2 e4 hlocks
      · rw [q] at e2
        exact W.zret B.exec B.bytes (by rw [hret]; exact hrt.2.2.1 q) (pm_nar_bool e2).1 hq hS1.2.2 e4 hlocks
      · rw [q] at e2
        exact W.zret B.exec B.bytes (by rw [hret]; exact hrt.2.2.2.2.2.1 q) (by have := pk_nc x; rw [show (x.toUInt32 % 65536).toInt32 = x from e2] at this; exact this) hq hS1.2.2 e4 hlocks
      · rw [q] at e2
        exact W.zret B.exec B.bytes (by rw [hret]; exact hrt.2.2.2.2.2.2 q) (by have := pk_nb x; rw [show x.toInt8.toInt32 = x from e2] at this; exact this) hq hS1.2.2 e4 hlocks
    · exact W.lret B.exec B.bytes (by rw [hret]; exact hrt.2.2.2.1 e2) (fun t ht _ => ⟨by rw [e1]; rfl, by rw [ht]; exact hP1, hS1.F ht, hE1, fun v z => by rw [e1] at z; cases z; trivial⟩) hS1.2.2 e3 hlocks
    · obtain ⟨nn, hnn⟩ := hrt.2.2.2.2.1 e2
      exact W.aret B.exec B.bytes (rt := .object nn) (by rw [hret]; exact hnn) (Or.inl ⟨nn, rfl⟩) (pm_mp_r hX.1 x) (fun t ht _ => ⟨by rw [e1]; rfl, by rw [ht]; exact hP1, hS1.F ht, hE1, fun v z => by rw [e1] at z; cases z; exact e3⟩) hS1.2.2 e4 hlocks
    · exact W.vret B.exec B.bytes (by rw [hret]; exact hrt.1 e2) (fun t ht _ => ⟨by rw [e1]; rfl, by rw [ht]; exact hP1, hS1.F ht, hE1, fun v z => by rw [e1] at z; cases z⟩) hS1.2.2 e3 hlocks
  have K := hP p e (pm_rm m) s mm (as.map (pm_mp ad fm)).toArray below meth c 0 0 _ m 0 (pm_ent m as) [] h r F hr ⟨pm_ent_ok ha, fun v hv => by cases hv⟩ hRt
  rw [lg_entry_eq]
  exact K s.heap [] _ ⟨hPw, hDw, va_S.rf, hE⟩ (pm_ent_LR hX.1 hl)
end PMC
end
section
section PMD
variable {p : Program} {l : Launch} {e : Env} {R : Room} {s : State} {mm : MethodId} {args : Array Value} {below : List Frame} {meth : Method} {c : Code} {cells slots : Nat} {Q : State → Prop}
variable {D : va_G} {cA : Nat → Nat → ClassId} {ad : Nat → Nat → Nat} {fm : Value} {A : Nat → Prop} {ex : Nat → Nat → Nat → Int32}
variable {m pc : Nat} {ls st : List PV} {h : PH} {r : PR} {k : Nat}
theorem pm_cats_mp (hfm : fm = .null ∨ ∃ a, fm = .ref a) (st : List PV) : ((st.map (pm_mp ad fm)).map fun v => v.category).sum = pm_cats st := by
  unfold pm_cats
  rw [List.map_map]
  congr 1
  refine List.map_congr_left fun v _ => ?_
  exact pm_cat_mp hfm v
theorem pm_gi {m' : Nat} (hc : Cond.code (pm_y m') (pm_by m') (pm_mxl m') (pm_rt0 m') ∈ pm_tb) : ∀ w ∈ pm_ws0 m', w ∈ pm_tb := fun w hw => (List.mem_cons.mp hw).elim (fun z => by rw [z]; exact hc) (fun z => z)
theorem pm_gw {ws : List Cond} (hc : ∀ w ∈ ws, w ∈ pm_tb) : GoodIn pm_tb ws := fun w hw => ⟨hc w hw, good_of_word (tf_good w (hc w hw))⟩
theorem pm_bl {as : List PV} {h : PH} : FrameBlind (pm_Pc D cA ad fm A ex as h) := by
  intro a U g mk q
  obtain ⟨q0, qP, qD, qK, qX⟩ := q
  exact ⟨q0, qP, qD, va_K.moved (u := U) (U := U.calling g mk a) (Vm.Alike.refl U.vm) qK, qX.blind rfl rfl⟩
/-- behind a call -/
theorem pm_ret_at (hP : pm_P l D cA ad fm A ex k) (F : pm_Fr p R s mm args c cells slots D cA ad fm A ex m) {a : PR} {rest : List PV} {nx : Nat} (hnx : nx = pc + 3) (e2 : pm_ex k (m, nx, ls, a.1.toList ++ rest, a.2) = some r) (hne : ∀ v, a.1 = some v → v ≠ none) (okl : ∀ v ∈ ls, pm_okv v) (okr : ∀ v ∈ rest, v ≠ none ∧ pm_okv v)
    (hRt : pm_RtW p l e R s mm args below meth c cells slots Q D cA ad fm A ex m r) {H : Heap} {locs : List Loc} {la : Array Slot} {stv : List Value} {av : Array Value} (hH : pm_HR s D cA ad A ex h H locs) (hL : pm_LR ad fm (pm_mxl m) ls la)
    (hrun : va_Run p l e R s mm args below meth c H locs cells slots 0 0 (F0 mm pc la stv) (rest.map (pm_mp ad fm)) (pm_Qc D cA ad fm A ex a av) A) :
    W p l e R s mm args below meth c H locs cells slots Q (F0 mm pc la stv) := by
  intro T hT X
  obtain ⟨v, st₀, t, T', L, h0, X', hLl, e1, e3, ⟨hv, hP1, hF1, hE1, hok⟩, st⟩ := hrun T hT X
  obtain ⟨hz, hk⟩ := hF1
  rw [h0] at hz hk
  obtain ⟨-, hD, hS, -⟩ := hH
  have hv : v = a.1.map (pm_mp ad fm) := by cases hv; rfl
  have okst : ∀ w ∈ a.1.toList ++ rest, w ≠ none ∧ pm_okv w := by
    intro w hw
    rcases List.mem_append.mp hw with q | q
    · have q : a.1 = some w := by
        cases ea : a.1 with
        | none => rw [ea] at q; cases q
        | some z =>
          rw [ea] at q
          have q : w = z := by simpa using q
          rw [q]
      exact ⟨hne w q, hok w q⟩
    · exact okr w q
  have S1 : va_S A s.heap T'.heap (locs ++ L) := ⟨Nat.le_trans hS.1 (by rw [e1]; exact hz), fun q h1 h2 => by rw [e1, hk q (Nat.lt_of_lt_of_le h1 hS.1) h2]; exact hS.2.1 q h1 h2, fun q hq => by
      rcases List.mem_append.mp hq with h | h
      · exact hS.2.2 q h
      · exact hLl q h⟩
  have K := hP p e R s mm args below meth c cells slots Q m nx ls (a.1.toList ++ rest) a.2 r F e2 ⟨okl, okst⟩ hRt T'.heap (locs ++ L) la ⟨by rw [e1]; exact hP1, pm_ws_dom hD, S1, hE1⟩ hL
  obtain ⟨t2, a1, b1⟩ := K T' rfl X'
  refine ⟨t2, st t2 ?_, b1⟩
  have e5 : v.toList ++ rest.map (pm_mp ad fm) = (a.1.toList ++ rest).map (pm_mp ad fm) := by
    rw [hv, List.map_append]
    cases a.1 <;> rfl
  have e6 : ({ F0 mm pc la stv with pc := (F0 mm pc la stv).pc + 3, stack := v.toList ++ rest.map (pm_mp ad fm) } : JFrame) = F0 mm nx la ((a.1.toList ++ rest).map (pm_mp ad fm)) := by
    rw [e5, hnx]
  rw [e6]
  exact a1
theorem pm_call_at (hP : pm_P l D cA ad fm A ex k) (F : pm_Fr p R s mm args c cells slots D cA ad fm A ex m) {v : Bool} {idx m' : Nat} (hlk : pm_lk (pm_nth pm_L (pm_own m) []) idx = some m') (hm1 : m' < 1000)
    (hdg : decode (pm_by m) pc = .ok ((match v with | true => .invokevirtual idx | false => .invokestatic idx), 3))
    (hop : pm_call False (fun σ => pm_ex k σ = some r) (fun σ q => pm_cl (pm_ex k) (pm_ex k) σ q = some r) v m' m (pc + 3) ls st h) (ok : pm_Ok (m, pc, ls, st, h)) (hRt : pm_RtW p l e R s mm args below meth c cells slots Q D cA ad fm A ex m r) :
    pm_At p l e R s mm args below meth c cells slots Q D cA ad fm A ex (m, pc, ls, st, h) := by
  obtain ⟨hx, hb, hml, hown, hts, hK, hX, hrf, hrl, hrc, hrs⟩ := F
  have F : pm_Fr p R s mm args c cells slots D cA ad fm A ex m := ⟨hx, hb, hml, hown, hts, hK, hX, hrf, hrl, hrc, hrs⟩
  obtain ⟨t1, t2, t3, t4, t5, t6, t7, t8⟩ := tf_lnk hlk hm1
  unfold pm_call at hop
  dsimp only at hop
  split at hop
  · rename_i hc
    obtain ⟨c1, c2, c3, c4, c5, c6⟩ := hc
    generalize has : (st.take (pm_na m')).reverse = as at hop c5
    generalize hre : st.drop (pm_na m') = rest at hop c2
    have hst : st = as.reverse ++ rest := by rw [← has, ← hre, List.reverse_reverse, List.take_append_drop]
    have hln : as.length = pm_na m' := by rw [← has, List.length_reverse, List.length_take]; omega
    have oka : ∀ w ∈ as, w ≠ none ∧ pm_okv w := fun w hw => ok.2 w (by show w ∈ st; rw [hst]; exact List.mem_append_left _ (List.mem_reverse.mpr hw))
    have okr : ∀ w ∈ rest, w ≠ none ∧ pm_okv w := fun w hw => ok.2 w (by show w ∈ st; rw [hst]; exact List.mem_append_right _ hw)
    have hstm : st.map (pm_mp ad fm) = (as.map (pm_mp ad fm)).reverse ++ rest.map (pm_mp ad fm) := by rw [hst, List.map_append, List.map_reverse]
    have hroom : (pm_rm m').frames + 1 ≤ R.frames ∧ 8 + (pm_mxl m' + 11) + (pm_rm m').locals ≤ R.locals := ⟨Nat.le_trans c3 hrf, Nat.le_trans (by show 8 + (pm_mxl m' + 11) + pm_lo m' ≤ pm_lo m; omega) hrl⟩
    have hrest : ((rest.map (pm_mp ad fm)).map fun v => v.category).sum ≤ 8 := by rw [pm_cats_mp hX.1]; exact c2
    intro H locs la hH hL
    obtain ⟨hPw, hDw, hSw, hEw⟩ := hH
    have hpre : ∀ U : State, U.heap = H → s.WarmedH U.vm → pm_Pc D cA ad fm A ex as h (as.map (pm_mp ad fm)).toArray U := fun U hU hW => ⟨rfl, by rw [hU]; exact hPw, hDw, va_K.moved hW.alike hK, hX.go hSw hU hW⟩
    show W p l e R s mm args below meth c H locs cells slots Q (F0 mm pc la (st.map (pm_mp ad fm)))
    split at hop
    · obtain ⟨a, e1, hne, e2, -⟩ := pm_cl_some hop
      have hM := pm_met hP e1 t3 t4 oka c5 hEw
      have hcl0 : pm_cls m' = 0 := by
        by_cases z : pm_cls m' = 0
        · exact z
        · exact absurd c6 (by simp [z])
      have hGI : GoodIn pm_tb (va_wsS (pm_on m) idx (pm_y m') (pm_ws0 m')) := pm_gw (by
        intro w hw
        unfold va_wsS at hw
        rcases List.mem_append.mp hw with q | q
        · simp only [List.mem_cons, List.not_mem_nil, or_false] at q
          rcases q with q | q | q
          · rw [q]; exact t1
          · rw [q]; exact (t7 hcl0).1
          · rw [q]; exact t5
        · exact pm_gi t2 w q)
      refine pm_ret_at hP F rfl e2 hne ok.1 okr hRt ⟨hPw, hDw, hSw, hEw⟩ hL (va_runS (As := as.map (pm_mp ad fm)) (rest := rest.map (pm_mp ad fm)) (own := pm_on m) (nL := pm_mxl m) (index := idx) (n := pm_na m') (Ts := pm_tb) ⟨hx, hb, hml, hown, hts⟩ hM (va_cwS (pm_na m') hts hGI rfl rfl rfl ⟨t6.1, t6.2, (t7 hcl0).2⟩ hroom) ⟨pm_bl, hpre⟩ rfl (by rw [List.length_map]; exact hln) hL.1 hstm (lv_room hrest) hdg ⟨hrc, hrs⟩)
    · rename_i t i as'
      split at hop
      · rename_i htc
        obtain ⟨a, e1, hne, e2, -⟩ := pm_cl_some hop
        have hM := pm_met hP e1 t3 t4 oka c5 hEw
        have hcn : pm_cls m' ≠ 0 := by omega
        obtain ⟨u1, u2, u3, u4, u5⟩ := t8 hcn
        have hoq : pm_okq t i := (oka _ List.mem_cons_self).2
        have hrecv : ∃ cellB : Cell, H[ad t i]? = some cellB ∧ cellB.vm.isStatics = false ∧ s.vm.findClass (pm_cn m') = some cellB.cls := by
          rcases u1 with u1 | u1
          · have ht9 : t < 9 := by omega
            have hob : (t, i) ∈ pm_obs := pm_ob_of hoq (by omega)
            obtain ⟨q0, -, hq0⟩ := pm_ws_at (ad := ad) (cA := cA) (h := h) hob
            rw [pm_cell_o ht9] at hq0
            have hvl : t < vwCl.length := ht9
            have hq := List.getElem?_eq_getElem hvl
            have := va_recv hK hPw hq hq0
            have e9 : pm_cn m' = (vwCl[t]).1 := by
              unfold pm_cn
              rw [if_neg (by omega), show pm_cls m' - 1 = t by omega, hq]
            rw [e9]
            exact this
          · have ht : t = 60 := by omega
            subst ht
            have hi21 : i < 21 := by
              rcases hoq with q | ⟨-, q⟩ | ⟨q, -, -⟩ | q
              · have := tf_tag _ q; simp only at this; omega
              · exact q
              · omega
              · omega
            obtain ⟨cell, z1, z2, z3, -⟩ := ((hX.2.2.2.2.2.2.2.1 i hi21).1.kept hSw.2.1)
            refine ⟨cell, z1, z2, ?_⟩
            unfold pm_cn
            rw [if_pos u1]
            exact z3
        have h67 : t ≠ 67 := by omega
        have hGI : GoodIn pm_tb (wsV (pm_on m) idx (pm_cn m') (pm_y m') (pm_ws0 m')) := pm_gw (by
          intro w hw
          unfold wsV at hw
          rcases List.mem_append.mp hw with q | q
          · simp only [List.mem_cons, List.not_mem_nil, or_false] at q
            rcases q with q | q | q | q
            · rw [q]; exact t1
            · rw [q]; exact u2
            · rw [q]; exact u3
            · rw [q, ← u4]; exact t5
          · exact pm_gi t2 w q)
        have hmc : (some (Sum.inr (Sum.inr (some (t, i)))) :: as').map (pm_mp ad fm) = Value.ref (ad t i) :: as'.map (pm_mp ad fm) := by rw [List.map_cons, pm_mp_ref h67]
        rw [hmc] at hpre
        have hst2 : st.map (pm_mp ad fm) = (as'.map (pm_mp ad fm)).reverse ++ Value.ref (ad t i) :: rest.map (pm_mp ad fm) := by
          rw [hstm, hmc, List.reverse_cons, List.append_assoc]
          rfl
        have hl2 : as'.length + 1 = pm_na m' := hln
        refine pm_ret_at hP F rfl e2 hne ok.1 okr hRt ⟨hPw, hDw, hSw, hEw⟩ hL (va_runV (As := as'.map (pm_mp ad fm)) (b := ad t i) (rest := rest.map (pm_mp ad fm)) (own := pm_on m) (C := pm_cn m') (nL := pm_mxl m) (index := idx) (n := as'.length) (Ts := pm_tb) ⟨hx, hb, hml, hown, hts⟩ hM (cwV as'.length hts hGI rfl rfl rfl ⟨u4, t6.1, t6.2, ?_⟩ hroom) ⟨pm_bl, hrecv, hpre⟩ rfl (by rw [List.length_map]) hL.1 hst2 (lv_room hrest) hdg ⟨hrc, hrs⟩)
        cases hd : parseMethodDescriptor (pm_y m').desc with
        | none => rw [hd] at u5; cases u5
        | some d =>
          rw [hd] at u5
          have u5 : d.parameters.length + 1 = pm_na m' := Option.some.inj u5
          show some d.parameters.length = some as'.length
          rw [show d.parameters.length = as'.length by omega]
      · exact hop.elim
    · exact hop.elim
  · exact hop.elim
theorem pm_inv_at (hP : pm_P l D cA ad fm A ex k) (F : pm_Fr p R s mm args c cells slots D cA ad fm A ex m) {v : Bool} {idx : Nat}
    (hdg : decode (pm_by m) pc = .ok ((match v with | true => .invokevirtual idx | false => .invokestatic idx), 3))
    (hop : pm_inv False (fun σ => pm_ex k σ = some r) (fun σ q => pm_cl (pm_ex k) (pm_ex k) σ q = some r) v idx m (pc + 3) ls st h) (ok : pm_Ok (m, pc, ls, st, h)) (hRt : pm_RtW p l e R s mm args below meth c cells slots Q D cA ad fm A ex m r) :
    pm_At p l e R s mm args below meth c cells slots Q D cA ad fm A ex (m, pc, ls, st, h) := by
  unfold pm_inv at hop
  split at hop
  · exact hop.elim
  · rename_i m' hlk
    split at hop
    · rename_i hm1
      subst hm1
      obtain ⟨f1, f2, f3, f4⟩ := tf_acp hlk
      split at hop
      · rename_i n dp t' i' sp t i rest
        split at hop
        · rename_i hc
          obtain ⟨c1, c2, c3, c4, c5, c6, c7, c8, c9⟩ := hc
          obtain ⟨hx, hb, hml, hown, hts, hK, hX, hrf, hrl, hrc, hrs⟩ := F
          have F : pm_Fr p R s mm args c cells slots D cA ad fm A ex m := ⟨hx, hb, hml, hown, hts, hK, hX, hrf, hrl, hrc, hrs⟩
          obtain ⟨a1, a2, a3⟩ := pm_isW_of c1
          obtain ⟨b1, b2, b3⟩ := pm_isW_of c2
          have o1 : (t', i') ∈ pm_obs := pm_ob_of (ok_hd (ok_tl (ok_tl ok.2))) (by omega)
          have o2 : (t, i) ∈ pm_obs := pm_ob_of (ok_hd (ok_tl (ok_tl (ok_tl (ok_tl ok.2))))) (by omega)
          intro H locs la hH hL
          obtain ⟨hPw, hDw, hSw, hEw⟩ := hH
          obtain ⟨q0, -, hq0⟩ := pm_ws_at (ad := ad) (cA := cA) (h := h) o2
          obtain ⟨q1, hq1o, hq1⟩ := pm_ws_at (ad := ad) (cA := cA) (h := h) o1
          rw [pm_cell_I (by omega) a3 (by decide) (by decide)] at hq0
          rw [pm_cell_I (by omega) b3 (by decide) (by decide)] at hq1
          obtain ⟨t0, ht0⟩ := pm_tys_at (cA := cA) o2 a1
          obtain ⟨t1, ht1⟩ := pm_tys_at (cA := cA) o1 b1
          rw [(pm_aty_of a3).1 rfl] at ht0
          rw [(pm_aty_of b3).1 rfl] at ht1
          rw [pm_len_in a2] at c6
          rw [pm_len_in b2] at c7
          show W p l e R s mm args below meth c H locs cells slots Q (F0 mm pc la (.int n :: .int dp :: pm_mp ad fm (vr t' i') :: .int sp :: pm_mp ad fm (vr t i) :: rest.map (pm_mp ad fm)))
          rw [pm_mp_ref (t := t') (by omega), pm_mp_ref (t := t) (by omega)]
          refine va_copyi hx hb (by rw [hml]; exact hL.1.symm) hown (hts _ f1) (hts _ f2) (hts _ f3) (hts _ f4) hK hPw hDw hSw q0 q1 t0 t1 hq0 hq1 ht0 ht1 rfl c3 c4 c5 c6 c7 (fun _ _ => rfl) (Nat.le_trans c8 hrf) (by rw [pm_cats_mp hX.1]; exact Nat.le_trans c9 hrl) hdg (fun H1 locs1 hP1 hD1 hS1 => ?_)
          have ecell : pm_cell ad cA (pm_cp h t i sp.toNatClampNeg t' i' dp.toNatClampNeg n.toNatClampNeg) t' i' = .inl (cA t' i', (pm_nth pm_at (t' - 10) (9, 0)).2, .inl (va_cpy (h.1 t i) (h.1 t' i') sp.toNatClampNeg dp.toNatClampNeg n.toNatClampNeg)) := by
            rw [pm_cell_I (by omega) b3 (by decide) (by decide)]
            have e0 : (pm_cp h t i sp.toNatClampNeg t' i' dp.toNatClampNeg n.toNatClampNeg).1 t' i' = va_cpy (h.1 t i) (h.1 t' i') sp.toNatClampNeg dp.toNatClampNeg n.toNatClampNeg := by
              funext j
              rw [pm_cp_at]
              unfold va_cpy
              simp
            rw [e0]
          rw [pm_ws_set hq1o pm_cell_cp ecell] at hP1 hD1
          exact hP p e R s mm args below meth c cells slots Q m (pc + 3) ls rest _ r F hop ⟨ok.1, ok_tl (ok_tl (ok_tl (ok_tl (ok_tl ok.2))))⟩ hRt H1 locs1 la ⟨hP1, hD1, hS1, pm_ex_cp hEw (by omega)⟩ hL
        · exact hop.elim
      · exact hop.elim
    · rename_i hm0
      split at hop
      · rename_i hm2
        obtain ⟨hx, hb, hml, hown, hts, hK, hX, hrf, hrl, hrc, hrs⟩ := F
        have F : pm_Fr p R s mm args c cells slots D cA ad fm A ex m := ⟨hx, hb, hml, hown, hts, hK, hX, hrf, hrl, hrc, hrs⟩
        obtain ⟨⟨w1, w2, w3⟩, w4⟩ := tf_mws
        split at hop
        · rename_i x rest hlk2
          split at hop
          · rename_i hc
            intro H locs la hH hL
            exact va_mabs hx hb (by rw [hml]; exact hL.1.symm) hown (hts _ (tf_mth hlk (Or.inl rfl))) (hts _ w1) (hts _ w4) (hts _ tf_mabs) (Nat.le_trans hc.1 hrf) (by rw [pm_cats_mp hX.1]; exact Nat.le_trans hc.2 hrl) hrc hrs hdg (hP p e R s mm args below meth c cells slots Q m (pc + 3) ls _ _ r F hop ⟨ok.1, ok_push (ok_tl ok.2) (by simp) trivial⟩ hRt H locs la hH hL)
          · exact hop.elim
        · split at hop
          · rename_i hc
            intro H locs la hH hL
            exact va_mmax hx hb (by rw [hml]; exact hL.1.symm) hown (hts _ (tf_mth hlk (Or.inr (Or.inl rfl)))) (hts _ w2) (hts _ w4) (hts _ tf_mmax) (Nat.le_trans hc.1 hrf) (by rw [pm_cats_mp hX.1]; exact Nat.le_trans hc.2 hrl) hrc hrs hdg (hP p e R s mm args below meth c cells slots Q m (pc + 3) ls _ _ r F hop ⟨ok.1, ok_push (ok_tl (ok_tl ok.2)) (by simp) trivial⟩ hRt H locs la hH hL)
          · exact hop.elim
        · split at hop
          · rename_i hc
            intro H locs la hH hL
            exact va_mmin hx hb (by rw [hml]; exact hL.1.symm) hown (hts _ (tf_mth hlk (Or.inr (Or.inr rfl)))) (hts _ w3) (hts _ w4) (hts _ tf_mmin) (Nat.le_trans hc.1 hrf) (by rw [pm_cats_mp hX.1]; exact Nat.le_trans hc.2 hrl) hrc hrs hdg (hP p e R s mm args below meth c cells slots Q m (pc + 3) ls _ _ r F hop ⟨ok.1, ok_push (ok_tl (ok_tl ok.2)) (by simp) trivial⟩ hRt H locs la hH hL)
          · exact hop.elim
        · exact hop.elim
      · exact pm_call_at hP F hlk (by omega) hdg hop ok hRt
/-- SOUND: every run of the simple machine is the machine's -/
theorem pm_sound (l : Launch) (D : va_G) (cA : Nat → Nat → ClassId) (ad : Nat → Nat → Nat) (fm : Value) (A : Nat → Prop) (ex : Nat → Nat → Nat → Int32) : ∀ n, pm_P l D cA ad fm A ex n
  | 0 => by
    intro p e R s mm args below meth c cells slots Q m pc ls st h r F hr
    cases hr
  | k + 1 => by
    intro p e R s mm args below meth c cells slots Q m pc ls st h r F hr ok hRt
    have hP := pm_sound l D cA ad fm A ex k
    have hr : pm_act (pm_ex k) (pm_pre (m, pc, ls, st, h)) = some r := hr
    have hn := pm_st_nat (fun a : PA => pm_act (pm_ex k) a = some r) none (fun σ => some (.inr (.inl σ))) (fun r => some (.inl r)) (fun σ q => some (.inr (.inr (σ, q)))) (m, pc, ls, st, h)
    have hop : pm_st (none = some r) (fun σ => pm_ex k σ = some r) (fun q => some q = some r) (fun σ q => pm_cl (pm_ex k) (pm_ex k) σ q = some r) (m, pc, ls, st, h) := by
      have := hn
      exact cast this hr
    rw [show ((none : Option PR) = some r) = False from by simp] at hop
    refine pm_step1 F hop (fun σ hg hm hok => ?_) (fun q hq => ?_) (fun v idx ls' hdg hi hok => pm_inv_at hP F hdg hi hok hRt) ok
    · obtain ⟨m2, pc2, ls2, st2, h2⟩ := σ
      have hm : m2 = m := hm
      subst hm
      exact hP p e R s mm args below meth c cells slots Q m2 pc2 ls2 st2 h2 r F hg hok hRt
    · have hq : q = r := Option.some.inj hq
      rw [hq]
      exact hRt
end PMD
end
section
/-! THE CONSTRUCTORS: a machine of their own, that makes cells; its methods have the numbers of the classes -/
def cn_0 : List (Nat × Instr × Nat) := [(0, .aload_n 0, 1), (1, .invokespecial 3, 3), (4, .aload_n 0, 1), (5, .bipush 6, 2), (7, .putfield 9, 3), (10, .aload_n 0, 1), (11, .bipush 6, 2), (13, .putfield 15, 3), (16, .aload_n 0, 1), (17, .iconst 1, 1), (18, .putfield 18, 3), (21, .aload_n 0, 1), (22, .iconst 4, 1), (23, .newarray .int, 2), (25, .putfield 21, 3), (28, .aload_n 0, 1), (29, .iconst 4, 1), (30, .newarray .int, 2), (32, .putfield 25, 3), (35, .aload_n 0, 1), (36, .iconst 4, 1), (37, .newarray .int, 2), (39, .putfield 28, 3), (42, .aload_n 0, 1), (43, .iconst 4, 1), (44, .newarray .int, 2), (46, .putfield 31, 3), (49, .aload_n 0, 1), (50, .iconst 4, 1), (51, .newarray .int, 2), (53, .putfield 34, 3), (56, .aload_n 0, 1), (57, .iconst 4, 1), (58, .newarray .int, 2), (60, .putfield 37, 3), (63, .aload_n 0, 1), (64, .bipush 16, 2), (66, .newarray .int, 2), (68, .putfield 40, 3), (71, .aload_n 0, 1), (72, .bipush 16, 2), (74, .newarray .int, 2), (76, .putfield 43, 3), (79, .aload_n 0, 1), (80, .bipush 16, 2), (82, .newarray .int, 2), (84, .putfield 46, 3), (87, .return_, 1)]
def cn_1 : List (Nat × Instr × Nat) := [(0, .aload_n 0, 1), (1, .invokespecial 3, 3), (4, .aload_n 0, 1), (5, .new 9, 3), (8, .dup, 1), (9, .invokespecial 11, 3), (12, .putfield 12, 3), (15, .return_, 1)]
def cn_2 : List (Nat × Instr × Nat) := [(0, .aload_n 0, 1), (1, .invokespecial 3, 3), (4, .aload_n 0, 1), (5, .bipush 6, 2), (7, .newarray .int, 2), (9, .putfield 9, 3), (12, .aload_n 0, 1), (13, .iconst 1, 1), (14, .putfield 15, 3), (17, .aload_n 0, 1), (18, .bipush 10, 2), (20, .newarray .int, 2), (22, .putfield 19, 3), (25, .aload_n 0, 1), (26, .bipush 10, 2), (28, .newarray .int, 2), (30, .putfield 22, 3), (33, .return_, 1)]
def cn_3 : List (Nat × Instr × Nat) := [(0, .aload_n 0, 1), (1, .invokespecial 3, 3), (4, .aload_n 0, 1), (5, .bipush 40, 2), (7, .newarray .int, 2), (9, .putfield 9, 3), (12, .aload_n 0, 1), (13, .bipush 120, 2), (15, .newarray .int, 2), (17, .putfield 15, 3), (20, .return_, 1)]
def cn_4 : List (Nat × Instr × Nat) := [(0, .aload_n 0, 1), (1, .invokespecial 3, 3), (4, .aload_n 0, 1), (5, .new 9, 3), (8, .dup, 1), (9, .invokespecial 11, 3), (12, .putfield 12, 3), (15, .aload_n 0, 1), (16, .new 18, 3), (19, .dup, 1), (20, .invokespecial 20, 3), (23, .putfield 21, 3), (26, .aload_n 0, 1), (27, .new 25, 3), (30, .dup, 1), (31, .invokespecial 27, 3), (34, .putfield 28, 3), (37, .aload_n 0, 1), (38, .iconst 4, 1), (39, .newarray .int, 2), (41, .putfield 32, 3), (44, .return_, 1)]
def cn_5 : List (Nat × Instr × Nat) := [(0, .aload_n 0, 1), (1, .invokespecial 3, 3), (4, .aload_n 0, 1), (5, .bipush 64, 2), (7, .newarray .long, 2), (9, .putfield 9, 3), (12, .return_, 1)]
def cn_6 : List (Nat × Instr × Nat) := [(0, .aload_n 0, 1), (1, .invokespecial 3, 3), (4, .aload_n 0, 1), (5, .sipush 600, 3), (8, .newarray .int, 2), (10, .putfield 9, 3), (13, .aload_n 0, 1), (14, .iconst (-1), 1), (15, .putfield 15, 3), (18, .aload_n 0, 1), (19, .iconst 3, 1), (20, .newarray .int, 2), (22, .putfield 19, 3), (25, .aload_n 0, 1), (26, .iconst 2, 1), (27, .anewarray 22, 3), (30, .putfield 24, 3), (33, .aload_n 0, 1), (34, .iconst 2, 1), (35, .anewarray 28, 3), (38, .putfield 30, 3), (41, .aload_n 0, 1), (42, .iconst 2, 1), (43, .anewarray 34, 3), (46, .putfield 36, 3), (49, .iconst 0, 1), (50, .istore_n 1, 1), (51, .iload_n 1, 1), (52, .iconst 2, 1), (53, .if_icmp .ge 48, 3), (56, .aload_n 0, 1), (57, .getfield 24, 3), (60, .iload_n 1, 1), (61, .new 22, 3), (64, .dup, 1), (65, .invokespecial 40, 3), (68, .aastore, 1), (69, .aload_n 0, 1), (70, .getfield 30, 3), (73, .iload_n 1, 1), (74, .new 28, 3), (77, .dup, 1), (78, .invokespecial 41, 3), (81, .aastore, 1), (82, .aload_n 0, 1), (83, .getfield 36, 3), (86, .iload_n 1, 1), (87, .new 34, 3), (90, .dup, 1), (91, .invokespecial 42, 3), (94, .aastore, 1), (95, .iinc 1 1, 3), (98, .goto (-47), 3), (101, .return_, 1)]
def cn_7 : List (Nat × Instr × Nat) := [(0, .aload_n 0, 1), (1, .invokespecial 1, 3), (4, .aload_n 0, 1), (5, .new 7, 3), (8, .dup, 1), (9, .invokespecial 9, 3), (12, .putfield 10, 3), (15, .aload_n 0, 1), (16, .iconst 3, 1), (17, .anewarray 7, 3), (20, .putfield 16, 3), (23, .iconst 0, 1), (24, .istore_n 1, 1), (25, .iload_n 1, 1), (26, .iconst 3, 1), (27, .if_icmp .ge 22, 3), (30, .aload_n 0, 1), (31, .getfield 16, 3), (34, .iload_n 1, 1), (35, .new 7, 3), (38, .dup, 1), (39, .invokespecial 9, 3), (42, .aastore, 1), (43, .iinc 1 1, 3), (46, .goto (-21), 3), (49, .aload_n 0, 1), (50, .iconst 3, 1), (51, .newarray .boolean, 2), (53, .putfield 20, 3), (56, .aload_n 0, 1), (57, .new 24, 3), (60, .dup, 1), (61, .invokespecial 26, 3), (64, .putfield 27, 3), (67, .aload_n 0, 1), (68, .new 31, 3), (71, .dup, 1), (72, .invokespecial 33, 3), (75, .putfield 34, 3), (78, .aload_n 0, 1), (79, .new 38, 3), (82, .dup, 1), (83, .invokespecial 40, 3), (86, .putfield 41, 3), (89, .aload_n 0, 1), (90, .new 45, 3), (93, .dup, 1), (94, .invokespecial 47, 3), (97, .putfield 48, 3), (100, .return_, 1)]
def cn_8 : List (Nat × Instr × Nat) := [(0, .aload_n 0, 1), (1, .invokespecial 1, 3), (4, .aload_n 0, 1), (5, .sipush 5104, 3), (8, .newarray .int, 2), (10, .putfield 7, 3), (13, .aload_n 0, 1), (14, .iconst 3, 1), (15, .newarray .boolean, 2), (17, .putfield 13, 3), (20, .aload_n 0, 1), (21, .sipush 161, 3), (24, .newarray .int, 2), (26, .putfield 17, 3), (29, .aload_n 0, 1), (30, .bipush 48, 2), (32, .newarray .int, 2), (34, .putfield 20, 3), (37, .aload_n 0, 1), (38, .iconst 4, 1), (39, .newarray .int, 2), (41, .putfield 23, 3), (44, .aload_n 0, 1), (45, .iconst 4, 1), (46, .newarray .int, 2), (48, .putfield 26, 3), (51, .aload_n 0, 1), (52, .bipush 64, 2), (54, .newarray .int, 2), (56, .putfield 29, 3), (59, .aload_n 0, 1), (60, .bipush 64, 2), (62, .newarray .boolean, 2), (64, .putfield 32, 3), (67, .aload_n 0, 1), (68, .bipush 64, 2), (70, .newarray .boolean, 2), (72, .putfield 35, 3), (75, .aload_n 0, 1), (76, .bipush 64, 2), (78, .newarray .boolean, 2), (80, .putfield 38, 3), (83, .aload_n 0, 1), (84, .bipush 64, 2), (86, .newarray .boolean, 2), (88, .putfield 41, 3), (91, .aload_n 0, 1), (92, .getfield 7, 3), (95, .bipush 6, 2), (97, .iconst (-1), 1), (98, .iastore, 1), (99, .return_, 1)]
def cn_cd : List (List (Nat × Instr × Nat)) := [cn_0, cn_1, cn_2, cn_3, cn_4, cn_5, cn_6, cn_7, cn_8]
def cn_by : List ByteArray := [prog_2_method_1_code, prog_3_method_1_code, prog_4_method_1_code, prog_5_method_1_code, prog_6_method_1_code, prog_8_method_1_code, prog_9_method_1_code, prog_1_method_1_code, prog_11_method_1_code]
def cn_mx : List Nat := [1, 1, 1, 1, 1, 1, 2, 2, 1]
def cn_nm : List String := ["IllLight$Coast", "IllLight$Course", "IllLight$Log", "IllLight$Night", "IllLight$Reader", "IllLight$Sea", "IllLight$Told", "IllLight", "IllLightModel"]
def cn_cap : List (Nat × Nat) := [(9, 72), (10, 88), (3, 26), (2, 160), (18, 288), (1, 64), (39, 1177), (204, 5299), (11, 5644)]
def cn_nd : List (Nat × Nat) := [(1, 40), (2, 60), (1, 40), (1, 40), (2, 60), (1, 40), (2, 60), (3, 81), (1, 40)]
/-- new: (entry, class, place of its word) -/
def cn_new : List (List (Nat × Nat × Nat)) := [[], [(9, 0, 377)], [], [], [(9, 0, 322), (18, 3, 324), (25, 2, 326)], [], [(22, 0, 145), (28, 3, 147), (34, 2, 149)], [(7, 6, 139), (24, 4, 316), (31, 1, 371), (38, 0, 398), (45, 5, 400)], []]
/-- a call: (entry, class, nest mate or not, place of its word); 99: Object -/
def cn_cl : List (List (Nat × Nat × Nat × Nat)) := [[(3, 99, 0, 155)], [(3, 99, 0, 376), (11, 0, 1, 378)], [(3, 99, 0, 256)], [(3, 99, 0, 236)], [(3, 99, 0, 321), (11, 0, 1, 323), (20, 3, 1, 325), (27, 2, 1, 327)], [(3, 99, 0, 405)], [(3, 99, 0, 144), (40, 0, 1, 152), (41, 3, 1, 233), (42, 2, 1, 253)], [(1, 99, 0, 136), (9, 6, 0, 141), (26, 4, 1, 318), (33, 1, 1, 373), (40, 0, 1, 399), (47, 5, 1, 402)], [(1, 99, 0, 1194)]]
def cn_fl : List (List (Nat × Nat × Nat)) := [[(9, 0, 156), (15, 1, 159), (18, 3, 165), (21, 6, 175), (25, 7, 176), (28, 9, 181), (31, 10, 185), (34, 11, 188), (37, 12, 189), (40, 13, 192), (43, 14, 194), (46, 15, 196), (49, 2, 163), (52, 4, 168), (56, 5, 173), (59, 8, 177)], [(12, 0, 379), (22, 1, 380), (26, 2, 381), (29, 3, 382), (32, 4, 383), (58, 5, 384)], [(9, 1, 259), (15, 2, 260), (19, 5, 266), (22, 6, 267), (25, 0, 257), (28, 3, 262), (31, 4, 264)], [(9, 1, 241), (15, 2, 243), (18, 0, 237)], [(12, 0, 328), (21, 1, 330), (28, 2, 332), (32, 5, 338), (43, 6, 339), (51, 3, 334), (54, 7, 340), (57, 4, 336), (71, 8, 341), (74, 9, 342), (77, 10, 343), (80, 11, 344)], [(9, 6, 412), (29, 0, 406), (37, 1, 407), (43, 2, 408), (54, 3, 409), (57, 4, 410), (84, 5, 411)], [(9, 0, 283), (15, 3, 289), (19, 4, 291), (24, 5, 292), (30, 6, 294), (36, 7, 296), (43, 1, 286), (85, 2, 288)], [(10, 0, 429), (16, 1, 430), (20, 2, 431), (27, 3, 432), (34, 4, 433), (41, 5, 434), (48, 6, 435)], [(7, 0, 1195), (13, 1, 1196), (17, 12, 1207), (20, 17, 1212), (23, 18, 1213), (26, 21, 1216), (29, 27, 1222), (32, 28, 1223), (35, 29, 1224), (38, 32, 1227), (41, 33, 1228), (44, 2, 1197), (58, 3, 1198), (65, 4, 1199), (68, 5, 1200), (83, 7, 1202), (89, 6, 1201), (92, 8, 1203), (114, 9, 1204), (117, 10, 1205), (124, 11, 1206), (178, 13, 1208), (181, 14, 1209), (184, 15, 1210), (187, 16, 1211), (199, 19, 1214), (221, 20, 1215), (227, 22, 1217), (230, 23, 1218), (233, 24, 1219), (236, 25, 1220), (239, 26, 1221), (346, 30, 1225), (361, 31, 1226), (384, 35, 1230), (388, 34, 1229), (399, 36, 1231)]]
abbrev CF : Type := Int32 ⊕ Option (Option Nat)
abbrev CE : Type := (Nat × List CF) ⊕ (Nat × Nat × List (Nat × Int32) × List (Nat × Nat))
abbrev CS : Type := Nat × Nat × List PV × List PV × List CE × Nat × Nat
def cn_d1 (f : Nat) : CF := match f with
  | 0 => .inl 0
  | 2 => .inl 0
  | 1 => .inr none
  | _ => .inr (some none)
def cn_df (ci : Nat) : List CF := (pm_ft.getD ci []).map cn_d1
def cn_rk (n : Nat) (e : CE) : Bool := match e with
  | .inl (_, fs) => fs.all fun f => match f with
    | .inr (some (some k)) => decide (k < n)
    | _ => true
  | .inr (_, _, _, rs) => rs.all fun q => decide (q.2 < n)
def cn_ok (w : List CE) : Bool := w.all (cn_rk w.length)
def cn_fetch (m pc : Nat) : Option (Instr × Nat) := (cn_cd.getD m []).lookup pc
def cn_cp (m : Nat) : Nat × Nat := cn_cap.getD m (0, 0)
def cn_nmx (m : Nat) : Nat := cn_mx.getD m 0
/-- what a step is: the end, the next state, or a call (class, object, the state behind it) -/
abbrev CA : Type := Option (Unit ⊕ (CS ⊕ (Nat × Nat × CS)))
def cn_kd (t : ArrayType) : Nat := match t with
  | .int => 0
  | .long => 1
  | .boolean => 2
  | _ => 9
def cn_op (m pc nx : Nat) (ls st : List PV) (w : List CE) (c sl : Nat) (i : Instr) : CA := match i with
  | .aload_n k => match ls[k.val]? with
    | some (some (.inr (.inr (some (0, a))))) => some (.inr (.inl (m, nx, ls, vr 0 a :: st, w, c, sl)))
    | _ => none
  | .iload_n k => match ls[k.val]? with
    | some (some (.inl x)) => some (.inr (.inl (m, nx, ls, vi x :: st, w, c, sl)))
    | _ => none
  | .iconst v => some (.inr (.inl (m, nx, ls, vi (Int32.ofInt v) :: st, w, c, sl)))
  | .bipush v => some (.inr (.inl (m, nx, ls, vi (Int8.ofInt v).toInt32 :: st, w, c, sl)))
  | .sipush v => some (.inr (.inl (m, nx, ls, vi (Int16.ofInt v).toInt32 :: st, w, c, sl)))
  | .istore_n k => match st with
    | some (.inl x) :: st => if k.val < ls.length then some (.inr (.inl (m, nx, pm_s1 ls k.val (vi x), st, w, c, sl))) else none
    | _ => none
  | .iinc k v => match ls[k]? with
    | some (some (.inl x)) => some (.inr (.inl (m, nx, pm_s1 ls k (vi (x + Int32.ofInt v)), st, w, c, sl)))
    | _ => none
  | .dup => match st with
    | some (.inr (.inr (some (0, a)))) :: st => some (.inr (.inl (m, nx, ls, vr 0 a :: vr 0 a :: st, w, c, sl)))
    | _ => none
  | .goto o => some (.inr (.inl (m, pm_tg pc o, ls, st, w, c, sl)))
  | .if_icmp cd o => match cd, st with
    | .ge, some (.inl y) :: some (.inl x) :: st => if y ≤ x then some (.inr (.inl (m, pm_tg pc o, ls, st, w, c, sl))) else some (.inr (.inl (m, nx, ls, st, w, c, sl)))
    | _, _ => none
  | .new idx => match (cn_new.getD m []).lookup idx with
    | some (ci, _) => if cn_ok w = true ∧ c + 1 ≤ (cn_cp m).1 ∧ sl + pm_nf ci ≤ (cn_cp m).2 then some (.inr (.inl (m, nx, ls, vr 0 w.length :: st, w ++ [.inl (ci, cn_df ci)], c + 1, sl + pm_nf ci))) else none
    | none => none
  | .newarray t => match st with
    | some (.inl n) :: st => if cn_ok w = true ∧ cn_kd t < 3 ∧ ¬ n < 0 ∧ n.toNatClampNeg ≤ 10000 ∧ c + 1 ≤ (cn_cp m).1 ∧ sl + n.toNatClampNeg ≤ (cn_cp m).2 then some (.inr (.inl (m, nx, ls, vr 0 w.length :: st, w ++ [.inr (cn_kd t, n.toNatClampNeg, [], [])], c + 1, sl + n.toNatClampNeg))) else none
    | _ => none
  | .anewarray idx => match (cn_new.getD m []).lookup idx, st with
    | some (ci, _), some (.inl n) :: st => if cn_ok w = true ∧ (ci = 0 ∨ ci = 2 ∨ ci = 3 ∨ ci = 6) ∧ ¬ n < 0 ∧ n.toNatClampNeg ≤ 10000 ∧ c + 1 ≤ (cn_cp m).1 ∧ sl + n.toNatClampNeg ≤ (cn_cp m).2 then some (.inr (.inl (m, nx, ls, vr 0 w.length :: st, w ++ [.inr (10 + ci, n.toNatClampNeg, [], [])], c + 1, sl + n.toNatClampNeg))) else none
    | _, _ => none
  | .putfield idx => match (cn_fl.getD m []).lookup idx, st with
    | some (k, _), v :: some (.inr (.inr (some (0, a)))) :: st => match w[a]?, v with
      | some (.inl (ci, fs)), some (.inl x) => if ci = m ∧ k < fs.length ∧ pm_fty m k = 0 then some (.inr (.inl (m, nx, ls, st, w.set a (.inl (ci, fs.set k (.inl x))), c, sl))) else none
      | some (.inl (ci, fs)), some (.inr (.inr (some (0, b)))) => if ci = m ∧ k < fs.length ∧ pm_fty m k = 3 ∧ b < w.length then some (.inr (.inl (m, nx, ls, st, w.set a (.inl (ci, fs.set k (.inr (some (some b))))), c, sl))) else none
      | _, _ => none
    | _, _ => none
  | .getfield idx => match (cn_fl.getD m []).lookup idx, st with
    | some (k, _), some (.inr (.inr (some (0, a)))) :: st => match w[a]? with
      | some (.inl (ci, fs)) => match fs[k]? with
        | some (.inr (some (some b))) => if ci = m ∧ b < w.length then some (.inr (.inl (m, nx, ls, vr 0 b :: st, w, c, sl))) else none
        | _ => none
      | _ => none
    | _, _ => none
  | .aastore => match st with
    | some (.inr (.inr (some (0, v)))) :: some (.inl i) :: some (.inr (.inr (some (0, a)))) :: st => match w[a]?, w[v]? with
      | some (.inr (kd, n, is, rs)), some (.inl (ci, _)) => if kd = 10 + ci ∧ pm_inb i n = true ∧ v < w.length then some (.inr (.inl (m, nx, ls, st, w.set a (.inr (kd, n, is, (i.toNatClampNeg, v) :: rs)), c, sl))) else none
      | _, _ => none
    | _ => none
  | .iastore => match st with
    | some (.inl x) :: some (.inl i) :: some (.inr (.inr (some (0, a)))) :: st => match w[a]? with
      | some (.inr (0, n, is, rs)) => if pm_inb i n = true then some (.inr (.inl (m, nx, ls, st, w.set a (.inr (0, n, (i.toNatClampNeg, x) :: is, rs)), c, sl))) else none
      | _ => none
    | _ => none
  | .invokespecial idx => match (cn_cl.getD m []).lookup idx, st with
    | some (ci, _), some (.inr (.inr (some (0, a)))) :: st => if ci = 99 then (if pm_cats st ≤ 8 then some (.inr (.inl (m, nx, ls, st, w, c, sl))) else none) else
        if ci < 9 ∧ c + (cn_cp ci).1 ≤ (cn_cp m).1 ∧ sl + (cn_cp ci).2 ≤ (cn_cp m).2 ∧ pm_cats st ≤ 8 ∧ a < w.length then some (.inr (.inr (ci, a, (m, nx, ls, st, w, c + (cn_cp ci).1, sl + (cn_cp ci).2)))) else none
    | _, _ => none
  | .return_ => match st with
    | [] => if c ≤ (cn_cp m).1 ∧ sl ≤ (cn_cp m).2 then some (.inl ()) else none
    | _ => none
  | _ => none
def cn_pre (σ : CS) : CA := match σ with
  | (m, pc, ls, st, w, c, sl) => match cn_fetch m pc with
    | none => none
    | some (i, n) => cn_op m pc (pc + n) ls st w c sl i
def cn_ent (m a : Nat) : List PV := vr 0 a :: List.replicate (cn_nmx m - 1) none
def cn_ex : Nat → CS → Option (List CE)
  | 0, _ => none
  | n + 1, σ => match cn_pre σ with
    | none => none
    | some (.inl _) => some σ.2.2.2.2.1
    | some (.inr (.inl σ')) => cn_ex n σ'
    | some (.inr (.inr (ci, a, (m, pc, ls, st, w, c, sl)))) => match cn_ex n (ci, 0, cn_ent ci a, [], w, 0, 0) with
      | none => none
      | some w' => if w.length ≤ w'.length then cn_ex n (m, pc, ls, st, w', c, sl) else none
def cn_n (m : Nat) : String := cn_nm.getD m ""
def cn_b (m : Nat) : ByteArray := cn_by.getD m ByteArray.empty
def cn_y (m : Nat) : MethodName := ⟨cn_n m, "<init>", "()V"⟩
def cn_ndm (m : Nat) : Nat × Nat := cn_nd.getD m (0, 0)
def cn_fv (as : Nat → Nat) (f : CF) : Value := match f with
  | .inl x => .int x
  | .inr none => .long 0
  | .inr (some none) => .null
  | .inr (some (some k)) => .ref (as k)
def cn_ce (as : Nat → Nat) (cA : ClassId) (e : CE) : va_E := match e with
  | .inl (ci, fs) => .inr (ci, fs.map (cn_fv as))
  | .inr (kd, n, is, rs) => .inl (cA, n, if kd = 1 then .inr (.inl (fun _ => 0)) else if kd < 3 then .inl (fun j => (is.lookup j).getD 0) else .inr (.inr (.inr (.inr (fun j => (rs.lookup j).map as)))))
theorem up_ag {α : Type} {as : Nat → α} {n : Nat} {q : α} : ∀ k, k < n → va_up as n q k = as k := fun k h => if_neg (by omega)
def cn_ws (as : Nat → Nat) (cA : Nat → ClassId) (w : List CE) : va_W := (List.range w.length).map fun k => (as k, cn_ce as (cA k) (w.getD k (.inl (0, []))))
theorem cn_ws_get (as : Nat → Nat) (cA : Nat → ClassId) (w : List CE) (k : Nat) : (cn_ws as cA w)[k]? = w[k]?.map fun e => (as k, cn_ce as (cA k) e) := by
  unfold cn_ws
  rw [List.getElem?_map]
  by_cases h : k < w.length
  · rw [List.getElem?_range h, List.getElem?_eq_getElem h]
    show some (as k, cn_ce as (cA k) (w.getD k (.inl (0, [])))) = some (as k, cn_ce as (cA k) w[k])
    rw [List.getD_eq_getElem?_getD, List.getElem?_eq_getElem h]
    rfl
  · rw [List.getElem?_eq_none_iff.mpr (by rw [List.length_range]; omega), List.getElem?_eq_none_iff.mpr (Nat.not_lt.mp h)]
    rfl
def cn_ty (kd : Nat) : FieldType := match kd with
  | 0 => .int
  | 1 => .long
  | 2 => .boolean
  | k => .object (cn_n (k - 10))
theorem cn_ce_up {as : Nat → Nat} {cA : ClassId} {e : CE} {n q : Nat} (h : cn_rk n e = true) : cn_ce (va_up as n q) cA e = cn_ce as cA e := by
  unfold cn_rk at h
  unfold cn_ce
  split
  · rename_i ci fs
    dsimp only at h
    rw [List.all_eq_true] at h
    have : fs.map (cn_fv (va_up as n q)) = fs.map (cn_fv as) := by
      refine List.map_congr_left fun f hf => ?_
      have h1 := h f hf
      unfold cn_fv
      split
      · rfl
      · rfl
      · rfl
      · rename_i k
        have h1 : k < n := by simpa using h1
        show Value.ref (va_up as n q k) = Value.ref (as k)
        rw [up_ag k h1]
    rw [this]
  · rename_i kd nn is rs
    dsimp only at h
    rw [List.all_eq_true] at h
    have : (fun j => (rs.lookup j).map (va_up as n q)) = (fun j => (rs.lookup j).map as) := by
      funext j
      cases e : rs.lookup j with
      | none => rfl
      | some k =>
        have h1 := h _ (pm_lookup_mem e)
        have h1 : k < n := by simpa using h1
        show some (va_up as n q k) = some (as k)
        rw [up_ag k h1]
    rw [this]
theorem cn_ws_push {as : Nat → Nat} {cA : Nat → ClassId} {w : List CE} {q : Nat} {cq : ClassId} {e : CE} (hw : cn_ok w = true) (he : cn_rk w.length e = true) : cn_ws (va_up as w.length q) (va_up cA w.length cq) (w ++ [e]) = cn_ws as cA w ++ [(q, cn_ce as cq e)] := by
  refine List.ext_getElem? fun k => ?_
  have hlen : (cn_ws as cA w).length = w.length := by unfold cn_ws; rw [List.length_map, List.length_range]
  rw [cn_ws_get]
  rcases Nat.lt_trichotomy k w.length with h | h | h
  · rw [List.getElem?_append_left h, List.getElem?_append_left (by rw [hlen]; exact h), cn_ws_get]
    cases ew : w[k]? with
    | none => rfl
    | some x =>
      have hx : cn_rk w.length x = true := List.all_eq_true.mp hw x (List.mem_of_getElem? ew)
      show some (va_up as w.length q k, cn_ce (va_up as w.length q) (va_up cA w.length cq k) x) = some (as k, cn_ce as (cA k) x)
      rw [up_ag k h, up_ag k h, cn_ce_up hx]
  · subst h
    rw [List.getElem?_append_right (Nat.le_refl _), List.getElem?_append_right (by rw [hlen]; exact Nat.le_refl _), hlen, Nat.sub_self]
    show some (va_up as w.length q w.length, cn_ce (va_up as w.length q) (va_up cA w.length cq w.length) e) = some (q, cn_ce as cq e)
    rw [va_up_self, va_up_self, cn_ce_up he]
  · rw [List.getElem?_eq_none_iff.mpr (by rw [List.length_append]; simp; omega), List.getElem?_eq_none_iff.mpr (by rw [List.length_append, hlen]; simp; omega)]
    rfl
theorem cn_ws_set {as : Nat → Nat} {cA : Nat → ClassId} {w : List CE} {a : Nat} {e : CE} : (cn_ws as cA w).set a (as a, cn_ce as (cA a) e) = cn_ws as cA (w.set a e) := by
  refine List.ext_getElem? fun k => ?_
  have hlen : (cn_ws as cA w).length = w.length := by unfold cn_ws; rw [List.length_map, List.length_range]
  rw [cn_ws_get, List.getElem?_set, List.getElem?_set, cn_ws_get, hlen]
  by_cases h : a = k
  · subst h
    rw [if_pos rfl, if_pos rfl]
    split <;> rfl
  · rw [if_neg h, if_neg h]
def cn_il (i : Instr) : Nat := match i with
  | .new _ => 3
  | .newarray _ => 2
  | .anewarray _ => 3
  | .invokespecial _ => 3
  | .iconst _ => 1
  | .bipush _ => 2
  | .sipush _ => 3
  | .iinc _ _ => 3
  | .if_icmp _ _ => 3
  | .goto _ => 3
  | .getfield _ => 3
  | .putfield _ => 3
  | _ => 1
theorem cck : (List.range 9).all (fun m => (cn_cd.getD m []).all (fun q => decide (decode (cn_b m) q.1 = .ok q.2) && decide (q.2.2 = cn_il q.2.1) && pm_tok q.1 q.2.1)) = true := by decide +kernel
theorem cn_tabm {β : Type} {L : List (List (Nat × β))} (hL : L.length ≤ 9) {chk : Nat → (Nat × β) → Bool} (hc : (List.range 9).all (fun m => (L.getD m []).all (chk m)) = true) {m a : Nat} {b : β} (h : (L.getD m []).lookup a = some b) : m < 9 ∧ chk m (a, b) = true := by
  have hm := pm_lookup_mem h
  have hw : m < 9 := by
    refine Nat.not_le.mp fun z => ?_
    have : L.getD m [] = [] := by
      rw [List.getD_eq_getElem?_getD, List.getElem?_eq_none_iff.mpr (Nat.le_trans hL z)]
      rfl
    rw [this] at hm
    cases hm
  exact ⟨hw, List.all_eq_true.mp (List.all_eq_true.mp hc m (List.mem_range.mpr hw)) _ hm⟩
theorem cf_dec {m pc : Nat} {i : Instr} {n : Nat} (h : cn_fetch m pc = some (i, n)) : m < 9 ∧ decode (cn_b m) pc = .ok (i, n) ∧ n = cn_il i ∧ pm_tok pc i = true := by
  obtain ⟨h1, h2⟩ := cn_tabm (by decide) cck h
  simp only [Bool.and_eq_true, decide_eq_true_eq] at h2
  exact ⟨h1, h2.1.1, h2.1.2, h2.2⟩
def cn_any (w : Cond) : Bool := lw_tbl.any (fun v => decide (v = w) && goodWord v)
theorem cnk : (List.range 9).all (fun m => (cn_new.getD m []).all (fun q => decide (q.2.1 < 9) && pm_is q.2.2 (Cond.classLink (cn_n m) q.1 (cn_n q.2.1)) && cn_any (Cond.instantiable (cn_n q.2.1) (pm_nf q.2.1)) && cn_any (Cond.initialized (cn_n q.2.1)))) = true := by decide +kernel
theorem cf_vw {ci : Nat} (h : ci < 9) : ∃ (C : String) (T : u_T), vwCl[ci]? = some (C, T, pm_nf ci) ∧ C = cn_n ci := by
  match ci, h with
  | 0, _ => exact ⟨_, _, rfl, rfl⟩
  | 1, _ => exact ⟨_, _, rfl, rfl⟩
  | 2, _ => exact ⟨_, _, rfl, rfl⟩
  | 3, _ => exact ⟨_, _, rfl, rfl⟩
  | 4, _ => exact ⟨_, _, rfl, rfl⟩
  | 5, _ => exact ⟨_, _, rfl, rfl⟩
  | 6, _ => exact ⟨_, _, rfl, rfl⟩
  | 7, _ => exact ⟨_, _, rfl, rfl⟩
  | 8, _ => exact ⟨_, _, rfl, rfl⟩
  | n + 9, h => exact absurd h (by omega)
theorem cf_new {m idx ci pl : Nat} (h : (cn_new.getD m []).lookup idx = some (ci, pl)) : Cond.classLink (cn_n m) idx (cn_n ci) ∈ pm_tb ∧ Cond.instantiable (cn_n ci) (pm_nf ci) ∈ pm_tb ∧ Cond.initialized (cn_n ci) ∈ pm_tb ∧ ci < 9 ∧ ∃ (C : String) (T : u_T), vwCl[ci]? = some (C, T, pm_nf ci) ∧ C = cn_n ci := by
  obtain ⟨h1, h2⟩ := cn_tabm (by decide) cnk h
  simp only [Bool.and_eq_true, decide_eq_true_eq] at h2
  exact ⟨pm_is_tb h2.1.1.2, pm_any_tb h2.1.2, pm_any_tb h2.2, h2.1.1.1, cf_vw h2.1.1.1⟩
def cn_dv (k : Nat) : Value := match k with
  | 0 => .int 0
  | 2 => .int 0
  | 1 => .long 0
  | _ => .null
theorem cn_d1_v (as : Nat → Nat) : ∀ k, cn_fv as (cn_d1 k) = cn_dv k
  | 0 => rfl
  | 1 => rfl
  | 2 => rfl
  | _ + 3 => rfl
theorem cf_dv : (List.range 9).all (fun ci => match vwCl[ci]? with
  | some (_, T, N) => decide (N = (pm_ft.getD ci []).length) && (List.range N).all (fun j => match parseFieldDescriptor (T j).2.2.1 with
    | some ty => decide (defaultValue ty = cn_dv ((pm_ft.getD ci []).getD j 9))
    | none => false)
  | none => false) = true := by decide +kernel
theorem cf_df {ci : Nat} {C : String} {T : u_T} {N : Nat} {ty : Nat → FieldType} {as : Nat → Nat} (hcl : vwCl[ci]? = some (C, T, N)) (hty : ∀ k, k < N → parseFieldDescriptor (T k).2.2.1 = some (ty k)) : ∀ j, j < N → defaultValue (ty j) = vp_V ((cn_df ci).map (cn_fv as)) j := by
  intro j hj
  have hci : ci < 9 := (List.getElem?_eq_some_iff.mp hcl).1
  have h := List.all_eq_true.mp cf_dv ci (List.mem_range.mpr hci)
  rw [hcl] at h
  simp only [Bool.and_eq_true, decide_eq_true_eq] at h
  have h2 := List.all_eq_true.mp h.2 j (List.mem_range.mpr hj)
  rw [hty j hj] at h2
  have h2 : defaultValue (ty j) = cn_dv ((pm_ft.getD ci []).getD j 9) := by simpa using h2
  rw [h2]
  unfold vp_V cn_df
  have hlt : j < (pm_ft.getD ci []).length := by rw [← h.1]; exact hj
  generalize pm_ft.getD ci [] = l at hlt ⊢
  rw [List.map_map, List.getD_eq_getElem?_getD, List.getD_eq_getElem?_getD, List.getElem?_map, List.getElem?_eq_getElem hlt]
  exact (cn_d1_v as _).symm
theorem cf_dfk (ci n : Nat) : cn_rk n (.inl (ci, cn_df ci)) = true := by
  unfold cn_rk
  dsimp only
  rw [List.all_eq_true]
  intro f hf
  unfold cn_df at hf
  obtain ⟨k, -, e⟩ := List.mem_map.mp hf
  rw [← e]
  match k with
  | 0 => rfl
  | 1 => rfl
  | 2 => rfl
  | _ + 3 => rfl
theorem cf_aw : (cn_any (Cond.arrayClass .int) && cn_any (Cond.arrayClass .long) && cn_any (Cond.arrayClass .boolean)) = true := by decide +kernel
theorem cf_arr (t : ArrayType) (h : cn_kd t < 3) : Cond.arrayClass (newarray.typeOf t) ∈ pm_tb ∧ newarray.typeOf t = cn_ty (cn_kd t) := by
  have ha := cf_aw
  simp only [Bool.and_eq_true] at ha
  cases t
  case int => exact ⟨pm_any_tb ha.1.1, rfl⟩
  case long => exact ⟨pm_any_tb ha.1.2, rfl⟩
  case boolean => exact ⟨pm_any_tb ha.2, rfl⟩
  all_goals exact absurd h (by decide)
theorem cf_arrc (t : ArrayType) (h : cn_kd t < 3) (cA : ClassId) (n : Nat) : vp_cell cA (n, if cn_kd t = 1 then .inr (.inl (fun _ => 0)) else .inl (fun _ => 0)) = arrV cA n (fun _ => defaultValue (cn_ty (cn_kd t))) := by
  cases t
  all_goals first | rfl | exact absurd h (by decide)
theorem cf_arrb (t : ArrayType) (h : cn_kd t < 3) {n : Nat} (hn : n ≤ 10000) : n * componentBytes (cn_ty (cn_kd t)) ≤ 536870912 := by
  have : componentBytes (cn_ty (cn_kd t)) ≤ 8 := by
    cases t
    all_goals first | decide | exact absurd h (by decide)
  exact Nat.le_trans (Nat.mul_le_mul hn this) (Nat.le_of_ble_eq_true rfl)
def cn_refty (t : FieldType) : Bool := match t with
  | .object _ => true
  | .array _ => true
  | _ => false
theorem cn_refty_ok {t : FieldType} (h : cn_refty t = true) (a : Nat) : narrow t (.ref a) = .ref a ∧ fits t (.ref a) = true := by
  unfold cn_refty at h
  split at h
  · exact ⟨rfl, rfl⟩
  · exact ⟨rfl, rfl⟩
  · cases h
theorem cfk : (List.range 9).all (fun m => (cn_fl.getD m []).all (fun q => match vwCl[m]? with
  | some (C, T, N) => decide (N = pm_nf m) && decide (q.2.1 < N) && pm_is q.2.2 (Cond.fieldLink (cn_n m) q.1 C (T q.2.1).2.1 (T q.2.1).2.2.1) && decide ((T q.2.1).1 = C) && decide (C = cn_n m) && (decide (pm_fty m q.2.1 ≠ 0) || (decide (parseFieldDescriptor (T q.2.1).2.2.1 = some .int) && decide ((T q.2.1).2.2.2 = false))) && (decide (pm_fty m q.2.1 ≠ 3) || (decide ((T q.2.1).2.2.2 = true) && (match parseFieldDescriptor (T q.2.1).2.2.1 with
    | some ty => cn_refty ty
    | none => false)))
  | none => false)) = true := by decide +kernel
theorem cf_fl {m idx k pl : Nat} (hm : m < 9) (h : (cn_fl.getD m []).lookup idx = some (k, pl)) : ∃ (C : String) (T : u_T), vwCl[m]? = some (C, T, pm_nf m) ∧ k < pm_nf m ∧ Cond.fieldLink (cn_n m) idx C (T k).2.1 (T k).2.2.1 ∈ pm_tb ∧ (T k).1 = C ∧ (pm_fty m k = 0 → parseFieldDescriptor (T k).2.2.1 = some .int ∧ (T k).2.2.2 = false) ∧ (pm_fty m k = 3 → (T k).2.2.2 = true ∧ ∃ ty3, parseFieldDescriptor (T k).2.2.1 = some ty3 ∧ (∀ a : Nat, narrow ty3 (.ref a) = .ref a ∧ fits ty3 (.ref a) = true) ∧ C = cn_n m) := by
  obtain ⟨-, h2⟩ := cn_tabm (by decide) cfk h
  dsimp only at h2
  split at h2
  · rename_i C T N hv
    simp only [Bool.and_eq_true, Bool.or_eq_true, decide_eq_true_eq] at h2
    obtain ⟨⟨⟨⟨⟨⟨a1, a2⟩, a3⟩, a4⟩, a5⟩, a6⟩, a7⟩ := h2
    subst a1
    refine ⟨C, T, hv, a2, pm_is_tb a3, a4, fun z => a6.resolve_left (fun y => y z), fun z => ?_⟩
    have a8 := a7.resolve_left (fun y => y z)
    refine ⟨a8.1, ?_⟩
    have a9 := a8.2
    split at a9
    · rename_i ty e
      exact ⟨ty, e, cn_refty_ok a9, a5⟩
    · cases a9
  · cases h2
theorem clk : (List.range 9).all (fun m => (cn_cl.getD m []).all (fun q => if q.2.1 = 99 then pm_is q.2.2.2 (Cond.methodLink (cn_n m) q.1 Lib.objectInit) else decide (q.2.1 < 9) && (decide (q.2.2.1 = 1) || (decide (q.2.2.1 = 0) && pm_is q.2.2.2 (Cond.methodLink (cn_n m) q.1 (cn_y q.2.1)))) && decide ((cn_ndm q.2.1).1 + 1 ≤ (cn_ndm m).1 ∧ 19 + cn_nmx q.2.1 + (cn_ndm q.2.1).2 ≤ (cn_ndm m).2))) = true := by decide +kernel
theorem ccw_0 : Cond.code ⟨"IllLight$Coast", "<init>", "()V"⟩ prog_2_method_1_code 1 none ∈ pm_tb := List.mem_filter.mpr ⟨(List.mem_append_right (k2_sels lw_privs) (List.mem_append_left _ (List.mem_of_getElem? (l := tables_1_1) (i := 42) rfl))), rfl⟩
theorem ccw_1 : Cond.code ⟨"IllLight$Course", "<init>", "()V"⟩ prog_3_method_1_code 1 none ∈ pm_tb := List.mem_filter.mpr ⟨(List.mem_append_right (k2_sels lw_privs) (List.mem_append_right _ (List.mem_append_left _ (List.mem_of_getElem? (l := tables_1_2) (i := 23) rfl)))), rfl⟩
theorem ccw_2 : Cond.code ⟨"IllLight$Log", "<init>", "()V"⟩ prog_4_method_1_code 1 none ∈ pm_tb := List.mem_filter.mpr ⟨(List.mem_append_right (k2_sels lw_privs) (List.mem_append_left _ (List.mem_of_getElem? (l := tables_1_1) (i := 143) rfl))), rfl⟩
theorem ccw_3 : Cond.code ⟨"IllLight$Night", "<init>", "()V"⟩ prog_5_method_1_code 1 none ∈ pm_tb := List.mem_filter.mpr ⟨(List.mem_append_right (k2_sels lw_privs) (List.mem_append_left _ (List.mem_of_getElem? (l := tables_1_1) (i := 123) rfl))), rfl⟩
theorem ccw_4 : Cond.code ⟨"IllLight$Reader", "<init>", "()V"⟩ prog_6_method_1_code 1 none ∈ pm_tb := List.mem_filter.mpr ⟨(List.mem_append_right (k2_sels lw_privs) (List.mem_append_left _ (List.mem_of_getElem? (l := tables_1_1) (i := 208) rfl))), rfl⟩
theorem ccw_5 : Cond.code ⟨"IllLight$Sea", "<init>", "()V"⟩ prog_8_method_1_code 1 none ∈ pm_tb := List.mem_filter.mpr ⟨(List.mem_append_right (k2_sels lw_privs) (List.mem_append_right _ (List.mem_append_left _ (List.mem_of_getElem? (l := tables_1_2) (i := 52) rfl)))), rfl⟩
theorem ccw_6 : Cond.code ⟨"IllLight$Told", "<init>", "()V"⟩ prog_9_method_1_code 2 none ∈ pm_tb := List.mem_filter.mpr ⟨(List.mem_append_right (k2_sels lw_privs) (List.mem_append_left _ (List.mem_of_getElem? (l := tables_1_1) (i := 31) rfl))), rfl⟩
theorem ccw_7 : Cond.code ⟨"IllLight", "<init>", "()V"⟩ prog_1_method_1_code 2 none ∈ pm_tb := List.mem_filter.mpr ⟨(List.mem_append_right (k2_sels lw_privs) (List.mem_append_left _ (List.mem_of_getElem? (l := tables_1_1) (i := 23) rfl))), rfl⟩
theorem ccw_8 : Cond.code ⟨"IllLightModel", "<init>", "()V"⟩ prog_11_method_1_code 1 none ∈ pm_tb := List.mem_filter.mpr ⟨(List.mem_append_right (k2_sels lw_privs) (List.mem_append_right _ (List.mem_append_right _ (List.mem_append_right _ (List.mem_append_right _ (List.mem_append_left _ (List.mem_of_getElem? (l := tables_1_5) (i := 121) rfl))))))), rfl⟩
theorem cf_code {m : Nat} (hm : m < 9) : Cond.code (cn_y m) (cn_b m) (cn_nmx m) none ∈ pm_tb := by
  match m, hm with
  | 0, _ => exact ccw_0
  | 1, _ => exact ccw_1
  | 2, _ => exact ccw_2
  | 3, _ => exact ccw_3
  | 4, _ => exact ccw_4
  | 5, _ => exact ccw_5
  | 6, _ => exact ccw_6
  | 7, _ => exact ccw_7
  | 8, _ => exact ccw_8
  | n + 9, h => exact absurd h (by omega)
theorem cf_ocode : Cond.code Lib.objectInit ⟨#[0xb1]⟩ 1 none ∈ pm_tb := by
  have h : object_method_1_code = ⟨#[0xb1]⟩ := by decide +kernel
  rw [← h]
  exact List.mem_filter.mpr ⟨(List.mem_append_right (k2_sels lw_privs) (List.mem_append_left _ (List.mem_of_getElem? (l := tables_1_1) (i := 26) rfl))), rfl⟩
theorem cmk : (List.range 9).all (fun m => plainName (cn_y m).cls && decide (1 ≤ cn_nmx m) && decide (1 ≤ (cn_ndm m).1 ∧ 40 ≤ (cn_ndm m).2) && cn_any (Cond.initialized (cn_n m)) && cn_any (Cond.instanceMethod (cn_y m)) && decide ((cn_y m).cls ≠ "java/lang/invoke/MethodHandle" ∧ (cn_y m).cls ≠ "java/lang/invoke/VarHandle")) = true := by decide +kernel
theorem cf_m {m : Nat} (hm : m < 9) : plainName (cn_y m).cls = true ∧ 1 ≤ cn_nmx m ∧ (1 ≤ (cn_ndm m).1 ∧ 40 ≤ (cn_ndm m).2) ∧ Cond.initialized (cn_n m) ∈ pm_tb ∧ Cond.instanceMethod (cn_y m) ∈ pm_tb ∧ ((cn_y m).cls ≠ "java/lang/invoke/MethodHandle" ∧ (cn_y m).cls ≠ "java/lang/invoke/VarHandle") := by
  have h := List.all_eq_true.mp cmk m (List.mem_range.mpr hm)
  simp only [Bool.and_eq_true, decide_eq_true_eq] at h
  obtain ⟨⟨⟨⟨⟨a1, a2⟩, a3⟩, a4⟩, a5⟩, a6⟩ := h
  exact ⟨a1, a2, a3, pm_any_tb a4, pm_any_tb a5, a6⟩
theorem cf_plain {m : Nat} (hm : m < 9) : plainName (cn_y m).cls = true := (cf_m hm).1
theorem cf_mx {m : Nat} (hm : m < 9) : 1 ≤ cn_nmx m := (cf_m hm).2.1
theorem cf_ow : cn_any (Cond.instanceMethod Lib.objectInit) = true := by decide +kernel
theorem cf_obj {m idx x y : Nat} (h : (cn_cl.getD m []).lookup idx = some (99, x, y)) : Cond.methodLink (cn_n m) idx Lib.objectInit ∈ pm_tb ∧ Cond.instanceMethod Lib.objectInit ∈ pm_tb ∧ Cond.code Lib.objectInit ⟨#[0xb1]⟩ 1 none ∈ pm_tb := by
  obtain ⟨-, h2⟩ := cn_tabm (by decide) clk h
  exact ⟨pm_is_tb h2, pm_any_tb cf_ow, cf_ocode⟩
theorem cf_cl {m idx ci nst y : Nat} (h : (cn_cl.getD m []).lookup idx = some (ci, nst, y)) (hc : ci ≠ 99) : ci < 9 ∧ (nst = 1 ∨ (nst = 0 ∧ Cond.methodLink (cn_n m) idx (cn_y ci) ∈ pm_tb)) ∧ (cn_ndm ci).1 + 1 ≤ (cn_ndm m).1 ∧ 19 + cn_nmx ci + (cn_ndm ci).2 ≤ (cn_ndm m).2 := by
  obtain ⟨-, h2⟩ := cn_tabm (by decide) clk h
  dsimp only at h2
  rw [if_neg hc] at h2
  simp only [Bool.and_eq_true, Bool.or_eq_true, decide_eq_true_eq] at h2
  exact ⟨h2.1.1, h2.1.2.imp id (fun z => ⟨z.1, pm_is_tb z.2⟩), h2.2.1, h2.2.2⟩
theorem cf_tyn {ci : Nat} (h : ci < 9) : cn_ty (10 + ci) = .object (vwCl[ci]'h).1 := by
  match ci, h with
  | 0, _ => rfl
  | 1, _ => rfl
  | 2, _ => rfl
  | 3, _ => rfl
  | 4, _ => rfl
  | 5, _ => rfl
  | 6, _ => rfl
  | 7, _ => rfl
  | 8, _ => rfl
  | n + 9, h => exact absurd h (by omega)
end
section
/-! SOUNDNESS of the constructors' machine -/
section CNS
variable {p : Program} {l : Launch} {e : Env} {R : Room} {s : State} {mm : MethodId} {args : Array Value} {below : List Frame} {meth : Method} {c : Code} {Q : State → Prop}
variable {D : va_G} {A : Nat → Prop}
/-- the words of the constructors that a callee doesn't take over by itself -/
def cn_N (U : State) : Prop := (∀ m idx ci pl : Nat, (cn_cl.getD m []).lookup idx = some (ci, 1, pl) → va_Nw (.methodLinkNest (cn_n m) idx (cn_y ci) "IllLight") U) ∧ ∀ ci : Nat, (ci = 0 ∨ ci = 2 ∨ ci = 3 ∨ ci = 6) → va_AO (cn_n ci) U
theorem cn_N.warm {s U : State} (h : cn_N s) (hW : s.WarmedH U.vm) : cn_N U := ⟨fun m idx ci pl hl => (h.1 m idx ci pl hl).warmM hW, fun ci hc => (h.2 ci hc).moved hW.alike⟩
theorem cn_N.same {s U : State} (h : cn_N s) (hv : s.vm = U.vm) : cn_N U := ⟨fun m idx ci pl hl => (h.1 m idx ci pl hl).same rfl hv, fun ci hc => (h.2 ci hc).moved (by rw [hv]; exact Vm.Alike.refl _)⟩
def cn_Ty (D : va_G) (cA : Nat → ClassId) (w : List CE) (U : State) : Prop := ∃ tys, va_K D vwCl tys U ∧ ∀ (k kd n : Nat) (is : List (Nat × Int32)) (rs : List (Nat × Nat)), w[k]? = some (.inr (kd, n, is, rs)) → ∃ t0 : Nat, tys[t0]? = some (cA k, cn_ty kd)
theorem cn_Ty.moved {cA : Nat → ClassId} {w : List CE} {u U : State} (hv : u.vm.Alike U.vm) (h : cn_Ty D cA w u) : cn_Ty D cA w U := by
  obtain ⟨tys, h1, h2⟩ := h
  exact ⟨tys, va_K.moved hv h1, h2⟩
def cn_HR (s : State) (D : va_G) (A : Nat → Prop) (as : Nat → Nat) (cA : Nat → ClassId) (w : List CE) (H : Heap) (locs : List Loc) : Prop := cn_Ty D cA w s ∧ va_P D vwCl (cn_ws as cA w) H ∧ va_D A (cn_ws as cA w) ∧ va_S A s.heap H locs
def cn_Fr (p : Program) (R : Room) (s : State) (mm : MethodId) (args : Array Value) (meth : Method) (c : Code) (A : Nat → Prop) (m : Nat) : Prop :=
  p.tables.exec = Jvm.exec ∧ c.code = cn_b m ∧ c.maxLocals = cn_nmx m ∧ s.vm.findClass (cn_n m) = some mm.cls ∧ (∀ w ∈ pm_tb, w.before args s = true) ∧ cn_N s ∧ meth.name = "<init>" ∧ (∀ q, s.heap.size ≤ q → A q) ∧ (cn_ndm m).1 ≤ R.frames ∧ (cn_ndm m).2 ≤ R.locals ∧ (cn_cp m).1 ≤ R.cells ∧ (cn_cp m).2 ≤ R.slots
def cn_okv (n : Nat) (v : PV) : Prop := match v with
  | some (.inr (.inr (some (0, k)))) => k < n
  | some (.inl _) => True
  | none => True
  | _ => False
def cn_At (p : Program) (l : Launch) (e : Env) (R : Room) (s : State) (mm : MethodId) (args : Array Value) (below : List Frame) (meth : Method) (c : Code) (Q : State → Prop) (D : va_G) (A : Nat → Prop) (as0 : Nat → Nat) (n0 : Nat) (σ : CS) : Prop :=
  ∀ (as : Nat → Nat) (cA : Nat → ClassId) (H : Heap) (locs : List Loc) (la : Array Slot), (∀ k, k < n0 → as k = as0 k) → cn_HR s D A as cA σ.2.2.2.2.1 H locs → pm_LR (fun _ => as) .null (cn_nmx σ.1) σ.2.2.1 la → W p l e R s mm args below meth c H locs σ.2.2.2.2.2.1 σ.2.2.2.2.2.2 Q (F0 mm σ.2.1 la (σ.2.2.2.1.map (pm_mp (fun _ => as) .null)))
def cn_Ok (n0 : Nat) (σ : CS) : Prop := (∀ v ∈ σ.2.2.1, cn_okv σ.2.2.2.2.1.length v) ∧ (∀ v ∈ σ.2.2.2.1, v ≠ none ∧ cn_okv σ.2.2.2.2.1.length v) ∧ n0 ≤ σ.2.2.2.2.1.length
def cn_RtW (p : Program) (l : Launch) (e : Env) (R : Room) (s : State) (mm : MethodId) (args : Array Value) (below : List Frame) (meth : Method) (c : Code) (Q : State → Prop) (D : va_G) (A : Nat → Prop) (as0 : Nat → Nat) (n0 m : Nat) (w : List CE) : Prop :=
  ∀ (as : Nat → Nat) (cA : Nat → ClassId) (H : Heap) (locs : List Loc) (la : Array Slot) (pc0 cc sl : Nat), (∀ k, k < n0 → as k = as0 k) → cn_HR s D A as cA w H locs → cc ≤ (cn_cp m).1 → sl ≤ (cn_cp m).2 → decode (cn_b m) pc0 = .ok (.return_, 1) → W p l e R s mm args below meth c H locs cc sl Q (F0 mm pc0 la [])
theorem cn_mp_up {as : Nat → Nat} {n q : Nat} {v : PV} (h : cn_okv n v) : pm_mp (fun _ => va_up as n q) .null v = pm_mp (fun _ => as) .null v := by
  unfold cn_okv at h
  unfold pm_mp
  split at h
  · rename_i k
    show (if (0 : Nat) = 67 then Value.null else Value.ref (va_up as n q k)) = if (0 : Nat) = 67 then Value.null else Value.ref (as k)
    rw [up_ag k h]
  · rfl
  · rfl
  · exact h.elim
theorem cn_mp_ag {as as' : Nat → Nat} {n : Nat} {v : PV} (ha : ∀ k, k < n → as' k = as k) (h : cn_okv n v) : pm_mp (fun _ => as') .null v = pm_mp (fun _ => as) .null v := by
  unfold cn_okv at h
  unfold pm_mp
  split at h
  · rename_i k
    show (if (0 : Nat) = 67 then Value.null else Value.ref (as' k)) = if (0 : Nat) = 67 then Value.null else Value.ref (as k)
    rw [ha k h]
  · rfl
  · rfl
  · exact h.elim
theorem cn_LR_ag {as as' : Nat → Nat} {n nL : Nat} {ls : List PV} {la : Array Slot} (ha : ∀ k, k < n → as' k = as k) (h : pm_LR (fun _ => as) .null nL ls la) (ok : ∀ v ∈ ls, cn_okv n v) : pm_LR (fun _ => as') .null nL ls la :=
  ⟨h.1, h.2.1, h.2.2.1, fun i v hv hn => by rw [cn_mp_ag ha (ok v (List.mem_of_getElem? hv))]; exact h.2.2.2 i v hv hn⟩
theorem cn_map_ag {as as' : Nat → Nat} {n : Nat} {st : List PV} (ha : ∀ k, k < n → as' k = as k) (ok : ∀ v ∈ st, v ≠ none ∧ cn_okv n v) : st.map (pm_mp (fun _ => as') .null) = st.map (pm_mp (fun _ => as) .null) := List.map_congr_left fun v hv => cn_mp_ag ha (ok v hv).2
theorem cn_okv_mono {n n' : Nat} (h : n ≤ n') {v : PV} (hv : cn_okv n v) : cn_okv n' v := by
  unfold cn_okv at hv ⊢
  split at hv
  · omega
  · trivial
  · trivial
  · exact hv.elim
theorem cn_ty_push {cA : Nat → ClassId} {w : List CE} {tys : List (ClassId × FieldType)} {cq : ClassId} {kd0 n0 : Nat} (hty : ∀ (k kd n : Nat) (is : List (Nat × Int32)) (rs : List (Nat × Nat)), w[k]? = some (.inr (kd, n, is, rs)) → ∃ t0 : Nat, tys[t0]? = some (cA k, cn_ty kd)) : ∀ (k kd n : Nat) (is : List (Nat × Int32)) (rs : List (Nat × Nat)), (w ++ [(Sum.inr (kd0, n0, [], []) : CE)])[k]? = some (.inr (kd, n, is, rs)) → ∃ t0 : Nat, (tys ++ [(cq, cn_ty kd0)])[t0]? = some (va_up cA w.length cq k, cn_ty kd) := by
  intro k kd n is rs hk
  rcases Nat.lt_trichotomy k w.length with h | h | h
  · rw [List.getElem?_append_left h] at hk
    obtain ⟨t0, ht0⟩ := hty k kd n is rs hk
    refine ⟨t0, ?_⟩
    rw [up_ag k h, List.getElem?_append_left (List.getElem?_eq_some_iff.mp ht0).1]
    exact ht0
  · subst h
    rw [List.getElem?_append_right (Nat.le_refl _), Nat.sub_self] at hk
    have hk := Option.some.inj hk
    cases hk
    refine ⟨tys.length, ?_⟩
    rw [va_up_self, List.getElem?_append_right (Nat.le_refl _), Nat.sub_self]
    rfl
  · rw [List.getElem?_eq_none_iff.mpr (by rw [List.length_append]; simp; omega)] at hk
    cases hk
theorem cn_top_ag {as : Nat → Nat} {n q : Nat} {st : List PV} (ok : ∀ v ∈ st, v ≠ none ∧ cn_okv n v) : (vr 0 n :: st).map (pm_mp (fun _ => va_up as n q) .null) = Value.ref q :: st.map (pm_mp (fun _ => as) .null) := by
  rw [List.map_cons, cn_map_ag up_ag ok]
  show (if (0 : Nat) = 67 then Value.null else Value.ref (va_up as n q n)) :: _ = _
  rw [va_up_self]
  rfl
theorem cn_Ty_set {cA : Nat → ClassId} {w : List CE} {U : State} {a ci : Nat} {fs fs' : List CF} (ha : w[a]? = some (.inl (ci, fs))) (h : cn_Ty D cA w U) : cn_Ty D cA (w.set a (.inl (ci, fs'))) U := by
  obtain ⟨tys, h1, h2⟩ := h
  refine ⟨tys, h1, fun k kd n is rs hk => ?_⟩
  rw [List.getElem?_set] at hk
  split at hk
  · split at hk
    · cases hk
    · cases hk
  · exact h2 k kd n is rs hk
theorem cn_Ty_setA {cA : Nat → ClassId} {w : List CE} {U : State} {a kd n : Nat} {is is' : List (Nat × Int32)} {rs rs' : List (Nat × Nat)} (ha : w[a]? = some (.inr (kd, n, is, rs))) (h : cn_Ty D cA w U) : cn_Ty D cA (w.set a (.inr (kd, n, is', rs'))) U := by
  obtain ⟨tys, h1, h2⟩ := h
  refine ⟨tys, h1, fun k kd2 n2 is2 rs2 hk => ?_⟩
  rw [List.getElem?_set] at hk
  split at hk
  · rename_i e
    subst e
    split at hk
    · have hk := Option.some.inj hk
      cases hk
      exact h2 a kd n is rs ha
    · cases hk
  · exact h2 k kd2 n2 is2 rs2 hk
end CNS
end
section
section CNT
variable {p : Program} {l : Launch} {e : Env} {R : Room} {s : State} {mm : MethodId} {args : Array Value} {below : List Frame} {meth : Method} {c : Code} {Q : State → Prop}
variable {D : va_G} {A : Nat → Prop} {as0 : Nat → Nat} {n0 : Nat}
def cn_ws0 (m : Nat) : List Cond := Cond.code (cn_y m) (cn_b m) (cn_nmx m) none :: pm_tb
def cn_rm (m : Nat) : Room := { frames := (cn_ndm m).1, cells := (cn_cp m).1, slots := (cn_cp m).2, locals := (cn_ndm m).2 }
def cn_Pc (D : va_G) (A : Nat → Prop) (as : Nat → Nat) (cA : Nat → ClassId) (w : List CE) (a : Nat) : Array Value → State → Prop := va_Pc [.ref (as a)] fun U => cn_Ty D cA w U ∧ va_P D vwCl (cn_ws as cA w) U.heap ∧ va_D A (cn_ws as cA w) ∧ (∀ q, U.heap.size ≤ q → A q) ∧ cn_N U
def cn_Qc (D : va_G) (A : Nat → Prop) (as : Nat → Nat) (n : Nat) (w' : List CE) : Array Value → State → Outcome → State → Prop := fun _ st o t => o = .returned none ∧ (∃ (as' : Nat → Nat) (cA' : Nat → ClassId), (∀ k, k < n → as' k = as k) ∧ cn_Ty D cA' w' t ∧ va_P D vwCl (cn_ws as' cA' w') t.heap ∧ va_D A (cn_ws as' cA' w')) ∧ va_F A st t
/-- n steps of the constructors' machine are the machine's, in every constructor's frame -/
def cn_P (l : Launch) (D : va_G) (A : Nat → Prop) (n : Nat) : Prop :=
  ∀ (p : Program) (e : Env) (R : Room) (s : State) (mm : MethodId) (args : Array Value) (below : List Frame) (meth : Method) (c : Code) (Q : State → Prop) (as0 : Nat → Nat) (n0 m pc : Nat) (ls st : List PV) (w : List CE) (cc sl : Nat) (w' : List CE), cn_Fr p R s mm args meth c A m → cn_ex n (m, pc, ls, st, w, cc, sl) = some w' → cn_Ok n0 (m, pc, ls, st, w, cc, sl) → cn_RtW p l e R s mm args below meth c Q D A as0 n0 m w' → cn_At p l e R s mm args below meth c Q D A as0 n0 (m, pc, ls, st, w, cc, sl)
theorem cn_met {n : Nat} (hP : cn_P l D A n) {m a : Nat} {as : Nat → Nat} {cA : Nat → ClassId} {w w' : List CE} (hr : cn_ex n (m, 0, cn_ent m a, [], w, 0, 0) = some w') (hm : m < 9) (ha : a < w.length) : Met l (cn_y m) (cn_ws0 m) (cn_rm m) (cn_Pc D A as cA w a) (cn_Qc D A as w.length w') (cn_cp m).1 (cn_cp m).2 A := by
  refine Met.ofW (cc := cn_b m) (maxL := cn_nmx m) (ret := none) (cf_plain hm) rfl ?_
  intro p e s mm args below meth c s₁ B hml hv
  obtain ⟨rfl, hTy, hPw, hDw, hA, hN⟩ := hv
  have hts0 := atoms_spec (ws := cn_ws0 m) B.pre
  have hlocks := B.notSynchronized
  have hown : s.vm.findClass (cn_n m) = some mm.cls := findClass_of_methodNamed B.named
  have hin : meth.name = "<init>" := (name_of_methodNamed B.named B.method).1
  have F : cn_Fr p (cn_rm m) s mm [Value.ref (as a)].toArray meth c A m := ⟨B.exec, B.bytes, hml, hown, fun w hw => hts0 w (List.mem_cons_of_mem _ hw), hN, hin, hA, Nat.le_refl _, Nat.le_refl _, Nat.le_refl _, Nat.le_refl _⟩
  have hRt : cn_RtW p l e (cn_rm m) s mm [Value.ref (as a)].toArray below meth c (MQ below (cn_Qc D A as w.length w') [Value.ref (as a)].toArray s (cn_cp m).1 (cn_cp m).2 A) D A as w.length m w' := by
    intro as' cA' H locs la pc0 cc sl hag hH hc hs hd
    obtain ⟨hT1, hP1, hD1, hS1⟩ := hH
    refine W.widen (k := (cn_cp m).1) (n := (cn_cp m).2) hc hs ?_
    exact W.vret B.exec B.bytes B.returns (fun t ht hW => ⟨rfl, ⟨as', cA', hag, hT1.moved hW.alike, by rw [ht]; exact hP1, hD1⟩, hS1.F ht⟩) hS1.2.2 hd hlocks
  have hmx : 1 ≤ cn_nmx m := cf_mx hm
  have K := hP p e (cn_rm m) s mm [Value.ref (as a)].toArray below meth c _ as w.length m 0 (cn_ent m a) [] w 0 0 w' F hr ⟨fun v hv => by
      unfold cn_ent at hv
      rcases List.mem_cons.mp hv with q | q
      · rw [q]; exact ha
      · rw [(List.mem_replicate.mp q).2]; trivial, (fun v hv => by cases hv), Nat.le_refl _⟩ hRt
  rw [show [Value.ref (as a)].toArray = ([Value.ref (as a)] : List Value).toArray from rfl, lg_entry_eq]
  refine K as cA s.heap [] _ (fun _ _ => rfl) ⟨hTy, hPw, hDw, va_S.rf⟩ ?_
  have hl := lv_entry ([Value.ref (as a)]) (n := cn_nmx m) (by simpa [lg_sl, Value.category] using hmx)
  refine pm_LR.of ?_ hl (fun q hq => ?_)
  · show (cn_ent m a).length = cn_nmx m
    unfold cn_ent
    rw [List.length_cons, List.length_replicate]
    omega
  · obtain ⟨v, hv, e0⟩ := pm_lv_mem.mp hq
    have hv : (cn_ent m a)[q.1]? = some (some v) := hv
    unfold cn_ent at hv
    cases hq1 : q.1 with
    | zero =>
      rw [hq1] at hv
      have hv : some (Sum.inr (Sum.inr (some (0, a)))) = some v := by simpa using hv
      have hv := Option.some.inj hv
      subst hv
      refine List.mem_cons.mpr (Or.inl (Prod.ext hq1 ?_))
      rw [e0]
      rfl
    | succ j =>
      rw [hq1] at hv
      rw [List.getElem?_cons_succ, List.getElem?_replicate] at hv
      split at hv
      · cases hv
      · cases hv
theorem cf_par : (parseMethodDescriptor "()V").map (fun d => d.parameters.length) = some 0 := by decide +kernel
theorem cn_bl {as : Nat → Nat} {cA : Nat → ClassId} {w : List CE} {a : Nat} : FrameBlind (cn_Pc D A as cA w a) := by
  intro av U g mk q
  obtain ⟨q0, qT, qP, qD, qA, qN⟩ := q
  exact ⟨q0, qT.moved (u := U) (U := U.calling g mk av) (Vm.Alike.refl U.vm), qP, qD, qA, qN.same rfl⟩
set_option maxHeartbeats 4000000 in
theorem cn_step {k : Nat} (hP : cn_P l D A k) {m pc : Nat} {ls st : List PV} {w : List CE} {cc sl : Nat} {w' : List CE} (F : cn_Fr p R s mm args meth c A m) (hr : cn_ex (k + 1) (m, pc, ls, st, w, cc, sl) = some w') (ok : cn_Ok n0 (m, pc, ls, st, w, cc, sl)) (hRt : cn_RtW p l e R s mm args below meth c Q D A as0 n0 m w') : cn_At p l e R s mm args below meth c Q D A as0 n0 (m, pc, ls, st, w, cc, sl) := by
  obtain ⟨hx, hb, hml, hown, hts, hN, hin, hA, hrf, hrl, hrc, hrs⟩ := F
  have F : cn_Fr p R s mm args meth c A m := ⟨hx, hb, hml, hown, hts, hN, hin, hA, hrf, hrl, hrc, hrs⟩
  have go : ∀ σ : CS, σ.1 = m → cn_ex k σ = some w' → cn_Ok n0 σ → cn_At p l e R s mm args below meth c Q D A as0 n0 σ := by
    intro σ hm h1 h2
    obtain ⟨m2, pc2, ls2, st2, w2, c2, sl2⟩ := σ
    have hm : m2 = m := hm
    subst hm
    exact hP p e R s mm args below meth c Q as0 n0 m2 pc2 ls2 st2 w2 c2 sl2 w' F h1 h2 hRt
  unfold cn_ex at hr
  cases hpre : cn_pre (m, pc, ls, st, w, cc, sl) with
  | none => rw [hpre] at hr; cases hr
  | some act =>
  rw [hpre] at hr
  unfold cn_pre at hpre
  dsimp only at hpre
  cases hf : cn_fetch m pc with
  | none => rw [hf] at hpre; cases hpre
  | some q =>
  obtain ⟨ins, n⟩ := q
  rw [hf] at hpre
  dsimp only at hpre
  obtain ⟨hm9, hdg, hn, htk⟩ := cf_dec hf
  have okp : ∀ {v : PV} {st : List PV} {n : Nat}, (∀ w ∈ st, w ≠ none ∧ cn_okv n w) → v ≠ none → cn_okv n v → ∀ w ∈ v :: st, w ≠ none ∧ cn_okv n w := fun h1 h2 h3 w hw => (List.mem_cons.mp hw).elim (fun z => by rw [z]; exact ⟨h2, h3⟩) (h1 w)
  have okt : ∀ {v : PV} {st : List PV} {n : Nat}, (∀ w ∈ v :: st, w ≠ none ∧ cn_okv n w) → ∀ w ∈ st, w ≠ none ∧ cn_okv n w := fun h1 w hw => h1 w (List.mem_cons_of_mem _ hw)
  cases ins
  all_goals try (cases (show (none : CA) = some act from hpre))
  all_goals (dsimp only [cn_il] at hn; subst hn)
  all_goals (unfold cn_op at hpre; dsimp only at hpre)
  case aload_n i =>
    split at hpre
    · rename_i a ha
      cases hpre
      intro as cA H locs la hag hH hL
      exact lv_aload_n hx hb hdg rfl (hL.2.2.2 i.val _ ha (by simp)) (go _ rfl hr ⟨ok.1, okp ok.2.1 (by simp) (ok.1 _ (List.mem_of_getElem? ha)), ok.2.2⟩ as cA H locs la hag hH hL)
    · cases hpre
  case iload_n i =>
    split at hpre
    · rename_i a ha
      cases hpre
      intro as cA H locs la hag hH hL
      exact lv_iload_n hx hb hdg rfl (hL.2.2.2 i.val _ ha (by simp)) (go _ rfl hr ⟨ok.1, okp ok.2.1 (by simp) trivial, ok.2.2⟩ as cA H locs la hag hH hL)
    · cases hpre
  case iconst v => cases hpre; exact fun as cA H locs la hag hH hL => lv_iconst hx hb hdg rfl (go _ rfl hr ⟨ok.1, okp ok.2.1 (by simp) trivial, ok.2.2⟩ as cA H locs la hag hH hL)
  case bipush v => cases hpre; exact fun as cA H locs la hag hH hL => lv_bipush hx hb hdg rfl (go _ rfl hr ⟨ok.1, okp ok.2.1 (by simp) trivial, ok.2.2⟩ as cA H locs la hag hH hL)
  case sipush v => cases hpre; exact fun as cA H locs la hag hH hL => lv_sipush hx hb hdg rfl (go _ rfl hr ⟨ok.1, okp ok.2.1 (by simp) trivial, ok.2.2⟩ as cA H locs la hag hH hL)
  case istore_n i =>
    split at hpre
    · rename_i x st'
      split at hpre
      · rename_i hi
        cases hpre
        intro as cA H locs la hag hH hL
        have hi' : i.val < cn_nmx m := by have := hL.2.2.1; simp only at this hi; omega
        refine lv_istore_n hx hb hdg rfl hL.has hi' rfl fun la' hl' => ?_
        exact go _ rfl hr ⟨pm_s1_ok ok.1 trivial (by trivial) i.val, okt ok.2.1, ok.2.2⟩ as cA H locs la' hag hH (pm_LR.of (by show (pm_s1 ls i.val (vi x)).length = cn_nmx m; rw [pm_s1_len]; exact hL.2.2.1) hl' (fun q hq => pm_s1_lv (Or.inl rfl) hq))
      · cases hpre
    · cases hpre
  case iinc i v =>
    split at hpre
    · rename_i x hxx
      cases hpre
      intro as cA H locs la hag hH hL
      have hi' : i < cn_nmx m := by rw [← hL.2.2.1]; exact (List.getElem?_eq_some_iff.mp hxx).1
      have hmem : (i, pm_mp (fun _ => as) .null (vi x)) ∈ pm_lv (fun _ => as) .null ls := pm_lv_mem.mpr ⟨_, hxx, rfl⟩
      obtain ⟨kk, hk⟩ := List.mem_iff_getElem?.mp hmem
      refine lv_iinc hx hb hdg hL.has hk rfl hi' rfl fun la' hl' => ?_
      exact go _ rfl hr ⟨pm_s1_ok ok.1 trivial (by trivial) i, ok.2.1, ok.2.2⟩ as cA H locs la' hag hH (pm_LR.of (by show (pm_s1 ls i _).length = cn_nmx m; rw [pm_s1_len]; exact hL.2.2.1) hl' (fun q hq => pm_s1_lv (Or.inl rfl) hq))
    · cases hpre
  case dup =>
    split at hpre
    · cases hpre
      exact fun as cA H locs la hag hH hL => lv_dup hx hb hdg rfl (go _ rfl hr ⟨ok.1, okp ok.2.1 (by simp) (ok.2.1 _ List.mem_cons_self).2, ok.2.2⟩ as cA H locs la hag hH hL)
    · cases hpre
  case goto o => cases hpre; exact fun as cA H locs la hag hH hL => lv_goto hx hb hdg (pm_tg_ok htk) (go _ rfl hr ⟨ok.1, ok.2.1, ok.2.2⟩ as cA H locs la hag hH hL)
  case if_icmp cd o =>
    split at hpre
    · rename_i y x st'
      have ht := pm_tg_ok htk
      split at hpre
      · rename_i hc
        cases hpre
        exact fun as cA H locs la hag hH hL => lv_icmp_ge hx hb hdg ht (fun _ => go _ rfl hr ⟨ok.1, okt (okt ok.2.1), ok.2.2⟩ as cA H locs la hag hH hL) (fun z => absurd hc z)
      · rename_i hc
        cases hpre
        exact fun as cA H locs la hag hH hL => lv_icmp_ge hx hb hdg ht (fun z => absurd z hc) (fun _ => go _ rfl hr ⟨ok.1, okt (okt ok.2.1), ok.2.2⟩ as cA H locs la hag hH hL)
    · cases hpre
  case new idx =>
    split at hpre
    · rename_i ci pl hlk
      split at hpre
      · rename_i hc
        obtain ⟨c1, c2, c3⟩ := hc
        cases hpre
        obtain ⟨f1, f2, f3, f4, C, T, hcl, hC⟩ := cf_new hlk
        intro as cA H locs la hag hH hL
        obtain ⟨⟨tys, hK, hty⟩, hPw, hDw, hSw⟩ := hH
        obtain ⟨hin2, ⟨ty, hty2⟩, -⟩ := tf_cls hcl
        rw [← hC] at f1 f2 f3
        refine va_new (fs := (cn_df ci).map (cn_fv as)) hx hb hts hin2 ty hty2 hown (hts _ f1) (hts _ f2) (hts _ f3) hK hPw hDw hSw hA hcl (cf_df hcl hty2) (Nat.le_trans c2 hrc) (Nat.le_trans c3 hrs) hdg (fun q H1 hP1 hD1 hS1 => ?_)
        have e1 : cn_ws as cA w ++ [(q, .inr (ci, (cn_df ci).map (cn_fv as)))] = cn_ws (va_up as w.length q) (va_up cA w.length 0) (w ++ [.inl (ci, cn_df ci)]) := (cn_ws_push c1 (cf_dfk ci w.length)).symm
        rw [e1] at hP1 hD1
        have ok2 : ∀ v ∈ ls, cn_okv (w ++ [(Sum.inl (ci, cn_df ci) : CE)]).length v := fun v hv => cn_okv_mono (n := w.length) (by rw [List.length_append]; omega) (ok.1 v hv)
        have ok3 : ∀ v ∈ st, v ≠ none ∧ cn_okv (w ++ [(Sum.inl (ci, cn_df ci) : CE)]).length v := fun v hv => ⟨(ok.2.1 v hv).1, cn_okv_mono (n := w.length) (by rw [List.length_append]; omega) (ok.2.1 v hv).2⟩
        have g1 := go _ rfl hr ⟨ok2, okp ok3 (by simp) (by show w.length < (w ++ _).length; rw [List.length_append]; simp), Nat.le_trans ok.2.2 (by show w.length ≤ (w ++ _).length; rw [List.length_append]; omega)⟩ (va_up as w.length q) (va_up cA w.length 0) H1 locs la (fun k hk => by rw [up_ag k (Nat.lt_of_lt_of_le hk ok.2.2)]; exact hag k hk) ⟨⟨tys, hK, fun j kd nn is rs hj => ?_⟩, hP1, hD1, hS1⟩ (cn_LR_ag up_ag hL ok.1)
        · have e2 : (vr 0 w.length :: st).map (pm_mp (fun _ => va_up as w.length q) .null) = Value.ref q :: st.map (pm_mp (fun _ => as) .null) := by
            rw [List.map_cons, cn_map_ag up_ag ok.2.1]
            show (if (0 : Nat) = 67 then Value.null else Value.ref (va_up as w.length q w.length)) :: _ = _
            rw [va_up_self]
            rfl
          have g2 : W p l e R s mm args below meth c H1 locs (cc + 1) (sl + pm_nf ci) Q (F0 mm (pc + 3) la ((vr 0 w.length :: st).map (pm_mp (fun _ => va_up as w.length q) .null))) := g1
          rw [e2] at g2
          exact g2
        · have hj : (w ++ [(Sum.inl (ci, cn_df ci) : CE)])[j]? = some (.inr (kd, nn, is, rs)) := hj
          rcases Nat.lt_or_ge j w.length with h | h
          · rw [List.getElem?_append_left h] at hj
            obtain ⟨t0, ht0⟩ := hty j kd nn is rs hj
            exact ⟨t0, by rw [up_ag j h]; exact ht0⟩
          · rw [List.getElem?_append_right h] at hj
            cases hjj : j - w.length with
            | zero => rw [hjj] at hj; simp at hj
            | succ z => rw [hjj] at hj; simp at hj
      · cases hpre
    · cases hpre
  case newarray t =>
    split at hpre
    · rename_i n st'
      split at hpre
      · rename_i hc
        obtain ⟨c1, c2, c3, c4, c5, c6⟩ := hc
        cases hpre
        obtain ⟨f1, f2⟩ := cf_arr t c2
        intro as cA H locs la hag hH hL
        obtain ⟨⟨tys, hK, hty⟩, hPw, hDw, hSw⟩ := hH
        refine va_newa (ty := cn_ty (cn_kd t)) (N' := n.toNatClampNeg) (a0 := (n.toNatClampNeg, if cn_kd t = 1 then .inr (.inl (fun _ => 0)) else .inl (fun _ => 0))) hx hb (hts _ f1) f2 hK hPw hDw hSw hA (fun cA' => cf_arrc t c2 cA' _) c3 rfl (cf_arrb t c2 c4) (Nat.le_trans c5 hrc) (Nat.le_trans c6 hrs) hdg (fun q cq H1 hK1 hP1 hD1 hS1 => ?_)
        have e1 : cn_ws as cA w ++ [(q, .inl (cq, (n.toNatClampNeg, if cn_kd t = 1 then .inr (.inl (fun _ => 0)) else .inl (fun _ => 0))))] = cn_ws (va_up as w.length q) (va_up cA w.length cq) (w ++ [.inr (cn_kd t, n.toNatClampNeg, [], [])]) := by
          rw [cn_ws_push c1 (by rfl)]
          congr 3
          show _ = (Sum.inl (cq, n.toNatClampNeg, if cn_kd t = 1 then Sum.inr (Sum.inl (fun _ => 0)) else if cn_kd t < 3 then .inl (fun j => (List.lookup j ([] : List (Nat × Int32))).getD 0) else _) : va_E)
          rw [if_pos (show cn_kd t < 3 from c2)]
          rfl
        rw [e1] at hP1 hD1
        have ok2 : ∀ v ∈ ls, cn_okv (w ++ [(Sum.inr (cn_kd t, n.toNatClampNeg, [], []) : CE)]).length v := fun v hv => cn_okv_mono (n := w.length) (by rw [List.length_append]; omega) (ok.1 v hv)
        have ok3 : ∀ v ∈ st', v ≠ none ∧ cn_okv (w ++ [(Sum.inr (cn_kd t, n.toNatClampNeg, [], []) : CE)]).length v := fun v hv => ⟨(okt ok.2.1 v hv).1, cn_okv_mono (n := w.length) (by rw [List.length_append]; omega) (okt ok.2.1 v hv).2⟩
        have g1 := go _ rfl hr ⟨ok2, okp ok3 (by simp) (by show w.length < (w ++ _).length; rw [List.length_append]; simp), Nat.le_trans ok.2.2 (by show w.length ≤ (w ++ _).length; rw [List.length_append]; omega)⟩ (va_up as w.length q) (va_up cA w.length cq) H1 locs la (fun k hk => by rw [up_ag k (Nat.lt_of_lt_of_le hk ok.2.2)]; exact hag k hk) ⟨⟨_, hK1, cn_ty_push hty⟩, hP1, hD1, hS1⟩ (cn_LR_ag up_ag hL ok.1)
        have g2 : W p l e R s mm args below meth c H1 locs (cc + 1) (sl + n.toNatClampNeg) Q (F0 mm (pc + 2) la ((vr 0 w.length :: st').map (pm_mp (fun _ => va_up as w.length q) .null))) := g1
        rw [cn_top_ag (okt ok.2.1)] at g2
        exact g2
      · cases hpre
    · cases hpre
  case anewarray idx =>
    split at hpre
    · rename_i ci pl n st' hlk
      split at hpre
      · rename_i hc
        obtain ⟨c1, c2, c3, c4, c5, c6⟩ := hc
        cases hpre
        obtain ⟨f1, f2, f3, f4, C, T, hcl, hC⟩ := cf_new hlk
        intro as cA H locs la hag hH hL
        obtain ⟨⟨tys, hK, hty⟩, hPw, hDw, hSw⟩ := hH
        refine va_newq (C := cn_n ci) (N' := n.toNatClampNeg) hx hb hown (hts _ f1) (hN.2 ci c2) hK hPw hDw hSw hA c3 rfl (by omega) (Nat.le_trans c5 hrc) (Nat.le_trans c6 hrs) hdg (fun q cq H1 hK1 hP1 hD1 hS1 => ?_)
        have e1 : cn_ws as cA w ++ [(q, .inl (cq, n.toNatClampNeg, .inr (.inr (.inr (.inr (fun _ => none))))))] = cn_ws (va_up as w.length q) (va_up cA w.length cq) (w ++ [.inr (10 + ci, n.toNatClampNeg, [], [])]) := by
          rw [cn_ws_push c1 (by rfl)]
          congr 3
          show _ = (Sum.inl (cq, n.toNatClampNeg, if 10 + ci = 1 then Sum.inr (Sum.inl (fun _ => 0)) else if 10 + ci < 3 then _ else Sum.inr (Sum.inr (Sum.inr (Sum.inr (fun j => (List.lookup j ([] : List (Nat × Nat))).map as))))) : va_E)
          rw [if_neg (show ¬ 10 + ci = 1 by omega), if_neg (show ¬ 10 + ci < 3 by omega)]
          rfl
        rw [e1] at hP1 hD1
        rw [show FieldType.object (cn_n ci) = cn_ty (10 + ci) from by rcases c2 with z | z | z | z <;> subst z <;> rfl] at hK1
        have ok2 : ∀ v ∈ ls, cn_okv (w ++ [(Sum.inr (10 + ci, n.toNatClampNeg, [], []) : CE)]).length v := fun v hv => cn_okv_mono (n := w.length) (by rw [List.length_append]; omega) (ok.1 v hv)
        have ok3 : ∀ v ∈ st', v ≠ none ∧ cn_okv (w ++ [(Sum.inr (10 + ci, n.toNatClampNeg, [], []) : CE)]).length v := fun v hv => ⟨(okt ok.2.1 v hv).1, cn_okv_mono (n := w.length) (by rw [List.length_append]; omega) (okt ok.2.1 v hv).2⟩
        have g1 := go _ rfl hr ⟨ok2, okp ok3 (by simp) (by show w.length < (w ++ _).length; rw [List.length_append]; simp), Nat.le_trans ok.2.2 (by show w.length ≤ (w ++ _).length; rw [List.length_append]; omega)⟩ (va_up as w.length q) (va_up cA w.length cq) H1 locs la (fun k hk => by rw [up_ag k (Nat.lt_of_lt_of_le hk ok.2.2)]; exact hag k hk) ⟨⟨_, hK1, cn_ty_push hty⟩, hP1, hD1, hS1⟩ (cn_LR_ag up_ag hL ok.1)
        have g2 : W p l e R s mm args below meth c H1 locs (cc + 1) (sl + n.toNatClampNeg) Q (F0 mm (pc + 3) la ((vr 0 w.length :: st').map (pm_mp (fun _ => va_up as w.length q) .null))) := g1
        rw [cn_top_ag (okt ok.2.1)] at g2
        exact g2
      · cases hpre
    · cases hpre
  case putfield idx =>
    split at hpre
    · rename_i k pl v a st' hlk
      obtain ⟨C, T, hcl, hkN, hfl, hC, hfi, hfr⟩ := cf_fl hm9 hlk
      obtain ⟨hin2, ⟨ty, hty2⟩, hnm⟩ := tf_cls hcl
      have hsame : ∀ x, s.fieldFound? (T k).1 (T k).2.1 (T k).2.2.1 = some x → s.fieldFound? C (T k).2.1 (T k).2.2.1 = some x := fun _ z => by rw [hC] at z; exact z
      split at hpre
      · rename_i ci fs x hwa
        split at hpre
        · rename_i hc
          obtain ⟨c1, c2, c3⟩ := hc
          subst c1
          cases hpre
          intro as cA H locs la hag hH hL
          obtain ⟨hTy, hPw, hDw, hSw⟩ := hH
          obtain ⟨tys, hK, hty⟩ := id hTy
          have hq0 : (cn_ws as cA w)[a]? = some (as a, .inr (ci, fs.map (cn_fv as))) := by rw [cn_ws_get, hwa]; rfl
          refine va_put (ci := ci) (v := .int x) (ty := .int) hx hb hts hin2 ty hty2 hnm hown hK hPw hDw hSw a hq0 hcl k hkN (hts _ hfl) hsame (hfi c3).2 (hfi c3).1 rfl rfl (by rw [List.length_map]; exact c2) hdg (fun H1 locs1 hP1 hD1 hS1 => ?_)
          have e1 : (cn_ws as cA w).set a (as a, .inr (ci, (fs.map (cn_fv as)).set k (.int x))) = cn_ws as cA (w.set a (.inl (ci, fs.set k (.inl x)))) := by
            rw [← cn_ws_set]
            show _ = (cn_ws as cA w).set a (as a, .inr (ci, (fs.set k (.inl x)).map (cn_fv as)))
            rw [List.map_set]
            rfl
          rw [e1] at hP1 hD1
          exact go _ rfl hr ⟨fun v hv => by show cn_okv (w.set a _).length v; rw [List.length_set]; exact ok.1 v hv, fun v hv => by show v ≠ none ∧ cn_okv (w.set a _).length v; rw [List.length_set]; exact okt (okt ok.2.1) v hv, by show n0 ≤ (w.set a _).length; rw [List.length_set]; exact ok.2.2⟩ as cA H1 locs1 la hag ⟨cn_Ty_set hwa hTy, hP1, hD1, hS1⟩ hL
        · cases hpre
      · rename_i ci fs b hwa
        split at hpre
        · rename_i hc
          obtain ⟨c1, c2, c3, c4⟩ := hc
          subst c1
          cases hpre
          intro as cA H locs la hag hH hL
          obtain ⟨hTy, hPw, hDw, hSw⟩ := hH
          obtain ⟨tys, hK, hty⟩ := id hTy
          obtain ⟨r1, ty3, r2, r3, r4⟩ := hfr c3
          have hq0 : (cn_ws as cA w)[a]? = some (as a, .inr (ci, fs.map (cn_fv as))) := by rw [cn_ws_get, hwa]; rfl
          refine va_putF (ci := ci) (v := .ref (as b)) (ty := ty3) hx hb hts hin2 ty hty2 hnm hown hK hPw hDw hSw a hq0 hcl k hkN (hts _ hfl) hsame r1 hin (by rw [hC]; exact r4) r2 (r3 _).1 (r3 _).2 (by rw [List.length_map]; exact c2) hdg (fun H1 locs1 hP1 hD1 hS1 => ?_)
          have e1 : (cn_ws as cA w).set a (as a, .inr (ci, (fs.map (cn_fv as)).set k (.ref (as b)))) = cn_ws as cA (w.set a (.inl (ci, fs.set k (.inr (some (some b)))))) := by
            rw [← cn_ws_set]
            show _ = (cn_ws as cA w).set a (as a, .inr (ci, (fs.set k (.inr (some (some b)))).map (cn_fv as)))
            rw [List.map_set]
            rfl
          rw [e1] at hP1 hD1
          exact go _ rfl hr ⟨fun v hv => by show cn_okv (w.set a _).length v; rw [List.length_set]; exact ok.1 v hv, fun v hv => by show v ≠ none ∧ cn_okv (w.set a _).length v; rw [List.length_set]; exact okt (okt ok.2.1) v hv, by show n0 ≤ (w.set a _).length; rw [List.length_set]; exact ok.2.2⟩ as cA H1 locs1 la hag ⟨cn_Ty_set hwa hTy, hP1, hD1, hS1⟩ hL
        · cases hpre
      · cases hpre
    · cases hpre
  case getfield idx =>
    split at hpre
    · rename_i k pl a st' hlk
      obtain ⟨C, T, hcl, hkN, hfl, hC, hfi, hfr⟩ := cf_fl hm9 hlk
      obtain ⟨hin2, ⟨ty, hty2⟩, hnm⟩ := tf_cls hcl
      split at hpre
      · rename_i ci fs hwa
        split at hpre
        · rename_i b hfk
          split at hpre
          · rename_i hc
            obtain ⟨c1, c2⟩ := hc
            subst c1
            cases hpre
            intro as cA H locs la hag hH hL
            obtain ⟨hTy, hPw, hDw, hSw⟩ := id hH
            obtain ⟨tys, hK, hty⟩ := hTy
            have hq0 : (cn_ws as cA w)[a]? = some (as a, .inr (ci, fs.map (cn_fv as))) := by rw [cn_ws_get, hwa]; rfl
            refine va_get (ci := ci) (v := .ref (as b)) hx hb hts hin2 hown hK hPw a hq0 hcl k hkN (hts _ hfl) (fun _ z => by rw [hC] at z; exact z) (by rw [List.getElem?_map, hfk]; rfl) hdg ?_
            exact go _ rfl hr ⟨ok.1, okp (okt ok.2.1) (by simp) c2, ok.2.2⟩ as cA H locs la hag hH hL
          · cases hpre
        · cases hpre
      · cases hpre
    · cases hpre
  case aastore =>
    split at hpre
    · rename_i v i a st'
      split at hpre
      · rename_i kd n is rs ci fs hwa hwv
        split at hpre
        · rename_i hc
          obtain ⟨c1, c2, c3⟩ := hc
          subst c1
          cases hpre
          intro as cA H locs la hag hH hL
          obtain ⟨hTy, hPw, hDw, hSw⟩ := hH
          obtain ⟨tys, hK, hty⟩ := id hTy
          obtain ⟨t0, ht0⟩ := hty a _ _ _ _ hwa
          have hci : ci < 9 := by
            obtain ⟨r, hr1, -⟩ := hPw v (as v, .inr (ci, fs.map (cn_fv as))) (by rw [cn_ws_get, hwv]; rfl)
            have := (List.getElem?_eq_some_iff.mp hr1).1
            exact this
          have hr1 : vwCl[ci]? = some (vwCl[ci]'hci) := List.getElem?_eq_getElem hci
          have hq0 : (cn_ws as cA w)[a]? = some (as a, .inl (cA a, n, .inr (.inr (.inr (.inr (fun j => (rs.lookup j).map as)))))) := by
            rw [cn_ws_get, hwa]
            show some (as a, (Sum.inl (cA a, n, if 10 + ci = 1 then Sum.inr (Sum.inl (fun _ => 0)) else if 10 + ci < 3 then _ else Sum.inr (Sum.inr (Sum.inr (Sum.inr (fun j => (rs.lookup j).map as))))) : va_E)) = _
            rw [if_neg (show ¬ 10 + ci = 1 by omega), if_neg (show ¬ 10 + ci < 3 by omega)]
          have hqv : (cn_ws as cA w)[v]? = some (as v, .inr (ci, fs.map (cn_fv as))) := by rw [cn_ws_get, hwv]; rfl
          refine va_astq hx hb hK hPw hDw hSw a t0 v ci hq0 (r := vwCl[ci]'hci) (by rw [ht0, cf_tyn hci]) hqv hr1 (pm_inb_in c2) hdg (fun H1 locs1 hP1 hD1 hS1 => ?_)
          have e1 : (cn_ws as cA w).set a (as a, .inl (cA a, n, .inr (.inr (.inr (.inr (va_up (fun j => (rs.lookup j).map as) i.toNatClampNeg (some (as v)))))))) = cn_ws as cA (w.set a (.inr (10 + ci, n, is, (i.toNatClampNeg, v) :: rs))) := by
            rw [← cn_ws_set]
            have e2 : cn_ce as (cA a) (.inr (10 + ci, n, is, (i.toNatClampNeg, v) :: rs)) = .inl (cA a, n, .inr (.inr (.inr (.inr (fun j => (((i.toNatClampNeg, v) :: rs).lookup j).map as))))) := by
              show (Sum.inl (cA a, n, if 10 + ci = 1 then Sum.inr (Sum.inl (fun _ => 0)) else if 10 + ci < 3 then _ else Sum.inr (Sum.inr (Sum.inr (Sum.inr (fun j => (((i.toNatClampNeg, v) :: rs).lookup j).map as))))) : va_E) = _
              rw [if_neg (show ¬ 10 + ci = 1 by omega), if_neg (show ¬ 10 + ci < 3 by omega)]
            rw [e2]
            congr 9
            funext j
            rw [List.lookup_cons]
            unfold va_up
            by_cases hj : j = i.toNatClampNeg
            · rw [if_pos hj, beq_iff_eq.mpr hj]; rfl
            · rw [if_neg hj, beq_eq_false_iff_ne.mpr hj]
          rw [e1] at hP1 hD1
          exact go _ rfl hr ⟨fun v hv => by show cn_okv (w.set a _).length v; rw [List.length_set]; exact ok.1 v hv, fun v hv => by show v ≠ none ∧ cn_okv (w.set a _).length v; rw [List.length_set]; exact okt (okt (okt ok.2.1)) v hv, by show n0 ≤ (w.set a _).length; rw [List.length_set]; exact ok.2.2⟩ as cA H1 locs1 la hag ⟨cn_Ty_setA hwa hTy, hP1, hD1, hS1⟩ hL
        · cases hpre
      · cases hpre
    · cases hpre
  case iastore =>
    split at hpre
    · rename_i x i a st'
      split at hpre
      · rename_i n is rs hwa
        split at hpre
        · rename_i hc
          cases hpre
          intro as cA H locs la hag hH hL
          obtain ⟨hTy, hPw, hDw, hSw⟩ := hH
          obtain ⟨tys, hK, hty⟩ := id hTy
          obtain ⟨t0, ht0⟩ := hty a _ _ _ _ hwa
          have hq0 : (cn_ws as cA w)[a]? = some (as a, .inl (cA a, n, .inl (fun j => (is.lookup j).getD 0))) := by
            rw [cn_ws_get, hwa]
            rfl
          refine va_iast hx hb hK hPw hDw hSw a t0 hq0 ht0 (pm_inb_in hc) hdg (fun H1 locs1 hP1 hD1 hS1 => ?_)
          have e1 : (cn_ws as cA w).set a (as a, .inl (cA a, n, .inl (upd (fun j => (is.lookup j).getD 0) i.toNatClampNeg x))) = cn_ws as cA (w.set a (.inr (0, n, (i.toNatClampNeg, x) :: is, rs))) := by
            rw [← cn_ws_set]
            show _ = (cn_ws as cA w).set a (as a, .inl (cA a, n, .inl (fun j => (((i.toNatClampNeg, x) :: is).lookup j).getD 0)))
            congr 6
            funext j
            rw [List.lookup_cons]
            unfold upd
            by_cases hj : j = i.toNatClampNeg
            · rw [if_pos hj, beq_iff_eq.mpr hj]; rfl
            · rw [if_neg hj, beq_eq_false_iff_ne.mpr hj]
          rw [e1] at hP1 hD1
          exact go _ rfl hr ⟨fun v hv => by show cn_okv (w.set a _).length v; rw [List.length_set]; exact ok.1 v hv, fun v hv => by show v ≠ none ∧ cn_okv (w.set a _).length v; rw [List.length_set]; exact okt (okt (okt ok.2.1)) v hv, by show n0 ≤ (w.set a _).length; rw [List.length_set]; exact ok.2.2⟩ as cA H1 locs1 la hag ⟨cn_Ty_setA hwa hTy, hP1, hD1, hS1⟩ hL
        · cases hpre
      · cases hpre
    · cases hpre
  case invokespecial idx =>
    split at hpre
    · rename_i ci nst a st' hlk
      split at hpre
      · rename_i h99
        subst h99
        split at hpre
        · rename_i hcat
          cases hpre
          obtain ⟨f1, f2, f3⟩ := cf_obj hlk
          obtain ⟨r1, r2⟩ := (cf_m hm9).2.2.1
          intro as cA H locs la hag hH hL
          have hcs : ((st'.map (pm_mp (fun _ => as) .null)).map fun v => v.category).sum ≤ 8 := by rw [pm_cats_mp (Or.inl rfl)]; exact hcat
          refine W.objInit hx hb hown (hts _ f1) (hts _ f2) (hts _ f3) (g := F0 mm pc la (Value.ref (as a) :: st'.map (pm_mp (fun _ => as) .null))) rfl (by rw [hml]; exact hL.1) (a := as a) (rest := st'.map (pm_mp (fun _ => as) .null)) rfl hdg (Nat.le_trans r1 hrf) (Nat.le_trans (Nat.add_le_add_right (lv_room hcs) 12) (by omega)) ?_
          exact go _ rfl hr ⟨ok.1, okt ok.2.1, ok.2.2⟩ as cA H locs la hag hH hL
        · cases hpre
      · rename_i h99
        split at hpre
        · rename_i hc
          obtain ⟨c1, c2, c3, c4, c5⟩ := hc
          cases hpre
          obtain ⟨nst, pl⟩ := nst
          obtain ⟨-, f2, f3, f4⟩ := cf_cl hlk h99
          obtain ⟨-, -, -, i1, i2, i3⟩ := cf_m c1
          have hr : (match cn_ex k (ci, 0, cn_ent ci a, [], w, 0, 0) with
            | none => none
            | some w2 => if w.length ≤ w2.length then cn_ex k (m, pc + 3, ls, st', w2, cc + (cn_cp ci).1, sl + (cn_cp ci).2) else none) = some w' := hr
          cases hcx : cn_ex k (ci, 0, cn_ent ci a, [], w, 0, 0) with
          | none => rw [hcx] at hr; cases hr
          | some w2 =>
          rw [hcx] at hr
          dsimp only at hr
          split at hr
          · rename_i hlen
            intro as cA H locs la hag hH hL
            obtain ⟨hTy, hPw, hDw, hSw⟩ := hH
            have hM := cn_met (as := as) (cA := cA) hP hcx c1 c5
            have hcs : ((st'.map (pm_mp (fun _ => as) .null)).map fun v => v.category).sum ≤ 8 := by rw [pm_cats_mp (Or.inl rfl)]; exact c4
            have hGI : GoodIn pm_tb (cn_ws0 ci) := pm_gw (fun w hw => (List.mem_cons.mp hw).elim (fun z => by rw [z]; exact cf_code c1) (fun z => z))
            have hroom : (cn_rm ci).frames + 1 ≤ R.frames ∧ 8 + (cn_nmx ci + 11) + (cn_rm ci).locals ≤ R.locals := ⟨Nat.le_trans f3 hrf, Nat.le_trans (by show 8 + (cn_nmx ci + 11) + (cn_ndm ci).2 ≤ (cn_ndm m).2; omega) hrl⟩
            have hpS : PreS s H (cn_Pc D A as cA w a) [.ref (as a)] := ⟨cn_bl, fun U hU hW => ⟨rfl, hTy.moved hW.alike, by rw [hU]; exact hPw, hDw, fun q hq => hA q (Nat.le_trans hSw.1 (by rw [hU] at hq; exact hq)), hN.warm hW⟩⟩
            have hrun : va_Run p l e R s mm args below meth c H locs cc sl (cn_cp ci).1 (cn_cp ci).2 (F0 mm pc la (Value.ref (as a) :: st'.map (pm_mp (fun _ => as) .null))) (st'.map (pm_mp (fun _ => as) .null)) (cn_Qc D A as w.length w2 [Value.ref (as a)].toArray) A := by
              rcases f2 with z | ⟨z, hlm⟩
              · subst z
                exact va_runIN (As := []) (b := as a) (own := cn_n m) (nL := cn_nmx m) (index := idx) (n := 0) (Ts := pm_tb) (host := "IllLight") ⟨hx, hb, hml, hown, hts⟩ hM ⟨va_cnB 0 hts hGI rfl rfl rfl (hN.1 m idx ci pl hlk) (hts _ i1) ⟨i3.1, i3.2, cf_par⟩ hroom, rfl, hts _ i2⟩ hpS rfl rfl hL.1 rfl (lv_room hcs) hdg ⟨Nat.le_trans c2 hrc, Nat.le_trans c3 hrs⟩
              · exact va_runI (As := []) (b := as a) (own := cn_n m) (nL := cn_nmx m) (index := idx) (n := 0) (Ts := pm_tb) ⟨hx, hb, hml, hown, hts⟩ hM (cwI 0 hts hGI rfl rfl rfl (hts _ i1) (hts _ hlm) (hts _ i2) rfl ⟨i3.1, i3.2, cf_par⟩ hroom) hpS rfl rfl hL.1 rfl (lv_room hcs) hdg ⟨Nat.le_trans c2 hrc, Nat.le_trans c3 hrs⟩
            show W p l e R s mm args below meth c H locs cc sl Q (F0 mm pc la (Value.ref (as a) :: st'.map (pm_mp (fun _ => as) .null)))
            intro T hT X
            obtain ⟨v, st₀, t, T', L, h0, X', hLl, e1, e3, ⟨hv, ⟨as', cA', hag', hT1, hP1, hD1⟩, hF1⟩, stp⟩ := hrun T hT X
            obtain ⟨hz, hk⟩ := hF1
            rw [h0] at hz hk
            have hv : v = none := by cases hv; rfl
            subst hv
            have S1 : va_S A s.heap T'.heap (locs ++ L) := ⟨Nat.le_trans hSw.1 (by rw [e1]; exact hz), fun q h1 h2 => by rw [e1, hk q (Nat.lt_of_lt_of_le h1 hSw.1) h2]; exact hSw.2.1 q h1 h2, fun q hq => by
                rcases List.mem_append.mp hq with h | h
                · exact hSw.2.2 q h
                · exact hLl q h⟩
            have hvm : s.vm.Alike t.vm := by rw [← e3]; exact X'.warmed.alike
            have K := go (m, pc + 3, ls, st', w2, cc + (cn_cp ci).1, sl + (cn_cp ci).2) rfl hr ⟨fun v hv => cn_okv_mono hlen (ok.1 v hv), fun v hv => ⟨(okt ok.2.1 v hv).1, cn_okv_mono hlen (okt ok.2.1 v hv).2⟩, Nat.le_trans ok.2.2 hlen⟩ as' cA' T'.heap (locs ++ L) la (fun k hk => by rw [hag' k (Nat.lt_of_lt_of_le hk ok.2.2)]; exact hag k hk) ⟨hT1.moved hvm.symm, by rw [e1]; exact hP1, hD1, S1⟩ (cn_LR_ag hag' hL ok.1)
            obtain ⟨t2, a1, b1⟩ := K T' rfl X'
            refine ⟨t2, stp t2 ?_, b1⟩
            have a1 : Steps p.tables e below (T'.setTop (F0 mm (pc + 3) la (st'.map (pm_mp (fun _ => as') .null)))) t2 := a1
            rw [cn_map_ag hag' (okt ok.2.1)] at a1
            exact a1
          · cases hr
        · cases hpre
    · cases hpre
  case return_ =>
    split at hpre
    · split at hpre
      · rename_i hc
        cases hpre
        have hr : some w = some w' := hr
        have hr := Option.some.inj hr
        subst hr
        exact fun as cA H locs la hag hH hL => hRt as cA H locs la pc cc sl hag hH hc.1 hc.2 hdg
      · cases hpre
    · cases hpre
end CNT
theorem cn_sound (l : Launch) (D : va_G) (A : Nat → Prop) : ∀ n, cn_P l D A n
  | 0 => by
    intro p e R s mm args below meth c Q as0 n0 m pc ls st w cc sl w' F hr
    cases hr
  | k + 1 => by
    intro p e R s mm args below meth c Q as0 n0 m pc ls st w cc sl w' F hr ok hRt
    exact cn_step (cn_sound l D A k) F hr ok hRt
end
section
/-! THE START: what the Statement gives, the world that the constructors make, the law up to its loop -/
def st_fl : List Cond := flatC (Jvm.Cond.and given_1 narrow_1)
def st_is (i : Nat) (c : Cond) : Bool := decide (st_fl[i]? = some c)
def st_t62 : List Int32 := [0, 12, 16, 21]
def st_p62 : List Nat := [7, 8, 9, 10]
theorem st_k62 : (st_is 5 (Cond.arrayOf (.static "IllLight$Reader" "WORDS_OF_SORT" "[I") .int) && st_is 6 (Cond.eq (.length (.static "IllLight$Reader" "WORDS_OF_SORT" "[I")) (.int (Int32.ofNat 4))) && (List.range 4).all (fun j => st_is (st_p62.getD j 0) (Cond.eq (.elem (.static "IllLight$Reader" "WORDS_OF_SORT" "[I") (.int (Int32.ofNat j))) (.int (st_t62.getD j 0))))) = true := by decide +kernel
def st_t63 : List Int32 := [2, 2, 2, 3, 4, 1, 1, 0, 2, 1, 0, 1, 2, 3, 1, 0, 1, 1, 1, 1, 1]
def st_p63 : List Nat := [19, 20, 21, 22, 23, 24, 25, 26, 27, 28, 29, 30, 31, 32, 33, 34, 35, 36, 37, 38, 39]
theorem st_k63 : (st_is 17 (Cond.arrayOf (.static "IllLight$Reader" "NUMBERS_OF_WORD" "[I") .int) && st_is 18 (Cond.eq (.length (.static "IllLight$Reader" "NUMBERS_OF_WORD" "[I")) (.int (Int32.ofNat 21))) && (List.range 21).all (fun j => st_is (st_p63.getD j 0) (Cond.eq (.elem (.static "IllLight$Reader" "NUMBERS_OF_WORD" "[I") (.int (Int32.ofNat j))) (.int (st_t63.getD j 0))))) = true := by decide +kernel
def st_t64 : List Int32 := [8, 8, 0, 0, 7, 7, 0, 0, 7, 7, 0, 0, 7, 7, 7, 0, 7, 7, 9, 9, 20, 0, 0, 0, 9, 0, 0, 0, 0, 0, 0, 0, 9, 23, 0, 0, 9, 0, 0, 0, 0, 0, 0, 0, 3, 0, 0, 0, 3, 3, 0, 0, 3, 3, 9, 0, 3, 0, 0, 0, 0, 0, 0, 0, 10, 0, 0, 0, 6, 0, 0, 0, 9, 0, 0, 0, 23, 0, 0, 0, 23, 0, 0, 0]
def st_p64 : List Nat := [43, 44, 45, 46, 47, 48, 49, 50, 51, 52, 53, 54, 55, 56, 57, 58, 59, 60, 61, 62, 63, 64, 65, 66, 67, 68, 69, 70, 71, 72, 73, 74, 75, 76, 77, 78, 79, 80, 81, 82, 83, 84, 85, 86, 87, 88, 89, 90, 91, 92, 93, 94, 95, 96, 97, 98, 99, 100, 101, 102, 103, 104, 105, 106, 107, 108, 109, 110, 111, 112, 113, 114, 115, 116, 117, 118, 119, 120, 121, 122, 123, 124, 125, 126]
theorem st_k64 : (st_is 41 (Cond.arrayOf (.static "IllLight$Reader" "MOST" "[I") .int) && st_is 42 (Cond.eq (.length (.static "IllLight$Reader" "MOST" "[I")) (.int (Int32.ofNat 84))) && (List.range 84).all (fun j => st_is (st_p64.getD j 0) (Cond.eq (.elem (.static "IllLight$Reader" "MOST" "[I") (.int (Int32.ofNat j))) (.int (st_t64.getD j 0))))) = true := by decide +kernel
def st_sb : List (List Int32) := [[115, 105, 122, 101], [108, 97, 109, 112], [114, 111, 99, 107], [103, 117, 97, 114, 100], [115, 104, 105, 112], [108, 105, 109, 105, 116], [112, 108, 97, 105, 110], [104, 105, 114, 101, 100], [108, 97, 116, 101], [100, 105, 118, 105, 100, 101, 100], [97, 115, 108, 101, 101, 112], [108, 111, 121, 97, 108], [103, 111], [109, 101, 97, 110], [116, 104, 114, 111, 119], [104, 111, 117, 114], [109, 97, 110], [101, 114, 114, 111, 114, 115], [108, 105, 116], [100, 97, 114, 107], []]
def st_sp : List (List Nat) := [[167, 168, 169, 170], [175, 176, 177, 178], [184, 185, 186, 187], [194, 195, 196, 197, 198], [206, 207, 208, 209], [218, 219, 220, 221, 222], [232, 233, 234, 235, 236], [247, 248, 249, 250, 251], [263, 264, 265, 266], [279, 280, 281, 282, 283, 284, 285], [299, 300, 301, 302, 303, 304], [319, 320, 321, 322, 323], [339, 340], [357, 358, 359, 360], [378, 379, 380, 381, 382], [401, 402, 403, 404], [424, 425, 426], [447, 448, 449, 450, 451, 452], [474, 475, 476], [499, 500, 501, 502], []]
def st_s4 : List (Nat × Nat × Nat × Nat) := [(163, 164, 165, 166), (171, 172, 173, 174), (180, 181, 182, 183), (190, 191, 192, 193), (202, 203, 204, 205), (214, 215, 216, 217), (228, 229, 230, 231), (243, 244, 245, 246), (259, 260, 261, 262), (275, 276, 277, 278), (295, 296, 297, 298), (315, 316, 317, 318), (335, 336, 337, 338), (353, 354, 355, 356), (374, 375, 376, 377), (397, 398, 399, 400), (420, 421, 422, 423), (443, 444, 445, 446), (470, 471, 472, 473), (495, 496, 497, 498), (522, 523, 524, 525)]
def st_sr : List Nat := [510, 511, 512, 513, 514, 515, 516, 517, 518, 519, 520, 521, 522, 523, 524, 525, 526, 527, 528, 529, 530]
theorem st_kc : (st_is 11 (Cond.eq (.static "java/lang/String" "COMPACT_STRINGS" "Z") (.int 1)) && st_is 12 (Cond.isRef (.static "jdk/internal/util/Preconditions" "SIOOBE_FORMATTER" "Ljava/util/function/BiFunction;"))) = true := by decide +kernel
def st_wA : List CE := [.inl (7, [.inr (some (some 1)), .inr (some (some 41)), .inr (some (some 162)), .inr (some (some 163)), .inr (some (some 182)), .inr (some (some 193)), .inr (some (some 203))]), .inl (6, [.inr (some (some 2)), .inl 0, .inl 0, .inl (-1), .inr (some (some 3)), .inr (some (some 4)), .inr (some (some 5)), .inr (some (some 6))]), .inr (0, 600, [], []), .inr (0, 3, [], []), .inr (10, 2, [], [(1, 24), (0, 7)]), .inr (13, 2, [], [(1, 34), (0, 17)]), .inr (12, 2, [], [(1, 37), (0, 20)]), .inl (0, [.inl 6, .inl 6, .inl 0, .inl 1, .inr none, .inl 0, .inr (some (some 8)), .inr (some (some 9)), .inl 0, .inr (some (some 10)), .inr (some (some 11)), .inr (some (some 12)), .inr (some (some 13)), .inr (some (some 14)), .inr (some (some 15)), .inr (some (some 16))]), .inr (0, 4, [], []), .inr (0, 4, [], []), .inr (0, 4, [], []), .inr (0, 4, [], []), .inr (0, 4, [], []), .inr (0, 4, [], []), .inr (0, 16, [], []), .inr (0, 16, [], []), .inr (0, 16, [], []), .inl (3, [.inl 0, .inr (some (some 18)), .inr (some (some 19))]), .inr (0, 40, [], []), .inr (0, 120, [], []), .inl (2, [.inl 0, .inr (some (some 21)), .inl 1, .inl 0, .inl 0, .inr (some (some 22)), .inr (some (some 23))]), .inr (0, 6, [], []), .inr (0, 10, [], []), .inr (0, 10, [], []), .inl (0, [.inl 6, .inl 6, .inl 0, .inl 1, .inr none, .inl 0, .inr (some (some 25)), .inr (some (some 26)), .inl 0, .inr (some (some 27)), .inr (some (some 28)), .inr (some (some 29)), .inr (some (some 30)), .inr (some (some 31)), .inr (some (some 32)), .inr (some (some 33))]), .inr (0, 4, [], []), .inr (0, 4, [], []), .inr (0, 4, [], []), .inr (0, 4, [], []), .inr (0, 4, [], []), .inr (0, 4, [], []), .inr (0, 16, [], []), .inr (0, 16, [], []), .inr (0, 16, [], []), .inl (3, [.inl 0, .inr (some (some 35)), .inr (some (some 36))]), .inr (0, 40, [], []), .inr (0, 120, [], []), .inl (2, [.inl 0, .inr (some (some 38)), .inl 1, .inl 0, .inl 0, .inr (some (some 39)), .inr (some (some 40))]), .inr (0, 6, [], []), .inr (0, 10, [], []), .inr (0, 10, [], []), .inr (16, 3, [], [(2, 122), (1, 82), (0, 42)]), .inl (6, [.inr (some (some 43)), .inl 0, .inl 0, .inl (-1), .inr (some (some 44)), .inr (some (some 45)), .inr (some (some 46)), .inr (some (some 47))]), .inr (0, 600, [], []), .inr (0, 3, [], []), .inr (10, 2, [], [(1, 65), (0, 48)]), .inr (13, 2, [], [(1, 75), (0, 58)]), .inr (12, 2, [], [(1, 78), (0, 61)]), .inl (0, [.inl 6, .inl 6, .inl 0, .inl 1, .inr none, .inl 0, .inr (some (some 49)), .inr (some (some 50)), .inl 0, .inr (some (some 51)), .inr (some (some 52)), .inr (some (some 53)), .inr (some (some 54)), .inr (some (some 55)), .inr (some (some 56)), .inr (some (some 57))]), .inr (0, 4, [], []), .inr (0, 4, [], []), .inr (0, 4, [], []), .inr (0, 4, [], []), .inr (0, 4, [], []), .inr (0, 4, [], []), .inr (0, 16, [], []), .inr (0, 16, [], []), .inr (0, 16, [], []), .inl (3, [.inl 0, .inr (some (some 59)), .inr (some (some 60))]), .inr (0, 40, [], []), .inr (0, 120, [], []), .inl (2, [.inl 0, .inr (some (some 62)), .inl 1, .inl 0, .inl 0, .inr (some (some 63)), .inr (some (some 64))]), .inr (0, 6, [], []), .inr (0, 10, [], []), .inr (0, 10, [], []), .inl (0, [.inl 6, .inl 6, .inl 0, .inl 1, .inr none, .inl 0, .inr (some (some 66)), .inr (some (some 67)), .inl 0, .inr (some (some 68)), .inr (some (some 69)), .inr (some (some 70)), .inr (some (some 71)), .inr (some (some 72)), .inr (some (some 73)), .inr (some (some 74))]), .inr (0, 4, [], []), .inr (0, 4, [], []), .inr (0, 4, [], []), .inr (0, 4, [], []), .inr (0, 4, [], []), .inr (0, 4, [], []), .inr (0, 16, [], []), .inr (0, 16, [], []), .inr (0, 16, [], []), .inl (3, [.inl 0, .inr (some (some 76)), .inr (some (some 77))]), .inr (0, 40, [], []), .inr (0, 120, [], []), .inl (2, [.inl 0, .inr (some (some 79)), .inl 1, .inl 0, .inl 0, .inr (some (some 80)), .inr (some (some 81))]), .inr (0, 6, [], []), .inr (0, 10, [], []), .inr (0, 10, [], []), .inl (6, [.inr (some (some 83)), .inl 0, .inl 0, .inl (-1), .inr (some (some 84)), .inr (some (some 85)), .inr (some (some 86)), .inr (some (some 87))]), .inr (0, 600, [], []), .inr (0, 3, [], []), .inr (10, 2, [], [(1, 105), (0, 88)]), .inr (13, 2, [], [(1, 115), (0, 98)]), .inr (12, 2, [], [(1, 118), (0, 101)]), .inl (0, [.inl 6, .inl 6, .inl 0, .inl 1, .inr none, .inl 0, .inr (some (some 89)), .inr (some (some 90)), .inl 0, .inr (some (some 91)), .inr (some (some 92)), .inr (some (some 93)), .inr (some (some 94)), .inr (some (some 95)), .inr (some (some 96)), .inr (some (some 97))]), .inr (0, 4, [], []), .inr (0, 4, [], []), .inr (0, 4, [], []), .inr (0, 4, [], []), .inr (0, 4, [], []), .inr (0, 4, [], []), .inr (0, 16, [], []), .inr (0, 16, [], []), .inr (0, 16, [], []), .inl (3, [.inl 0, .inr (some (some 99)), .inr (some (some 100))]), .inr (0, 40, [], []), .inr (0, 120, [], []), .inl (2, [.inl 0, .inr (some (some 102)), .inl 1, .inl 0, .inl 0, .inr (some (some 103)), .inr (some (some 104))]), .inr (0, 6, [], []), .inr (0, 10, [], []), .inr (0, 10, [], []), .inl (0, [.inl 6, .inl 6, .inl 0, .inl 1, .inr none, .inl 0, .inr (some (some 106)), .inr (some (some 107)), .inl 0, .inr (some (some 108)), .inr (some (some 109)), .inr (some (some 110)), .inr (some (some 111)), .inr (some (some 112)), .inr (some (some 113)), .inr (some (some 114))]), .inr (0, 4, [], []), .inr (0, 4, [], []), .inr (0, 4, [], []), .inr (0, 4, [], []), .inr (0, 4, [], []), .inr (0, 4, [], []), .inr (0, 16, [], []), .inr (0, 16, [], []), .inr (0, 16, [], []), .inl (3, [.inl 0, .inr (some (some 116)), .inr (some (some 117))]), .inr (0, 40, [], []), .inr (0, 120, [], []), .inl (2, [.inl 0, .inr (some (some 119)), .inl 1, .inl 0, .inl 0, .inr (some (some 120)), .inr (some (some 121))]), .inr (0, 6, [], []), .inr (0, 10, [], []), .inr (0, 10, [], []), .inl (6, [.inr (some (some 123)), .inl 0, .inl 0, .inl (-1), .inr (some (some 124)), .inr (some (some 125)), .inr (some (some 126)), .inr (some (some 127))]), .inr (0, 600, [], []), .inr (0, 3, [], []), .inr (10, 2, [], [(1, 145), (0, 128)]), .inr (13, 2, [], [(1, 155), (0, 138)]), .inr (12, 2, [], [(1, 158), (0, 141)]), .inl (0, [.inl 6, .inl 6, .inl 0, .inl 1, .inr none, .inl 0, .inr (some (some 129)), .inr (some (some 130)), .inl 0, .inr (some (some 131)), .inr (some (some 132)), .inr (some (some 133)), .inr (some (some 134)), .inr (some (some 135)), .inr (some (some 136)), .inr (some (some 137))]), .inr (0, 4, [], []), .inr (0, 4, [], []), .inr (0, 4, [], []), .inr (0, 4, [], []), .inr (0, 4, [], []), .inr (0, 4, [], []), .inr (0, 16, [], []), .inr (0, 16, [], []), .inr (0, 16, [], []), .inl (3, [.inl 0, .inr (some (some 139)), .inr (some (some 140))]), .inr (0, 40, [], []), .inr (0, 120, [], []), .inl (2, [.inl 0, .inr (some (some 142)), .inl 1, .inl 0, .inl 0, .inr (some (some 143)), .inr (some (some 144))]), .inr (0, 6, [], []), .inr (0, 10, [], []), .inr (0, 10, [], []), .inl (0, [.inl 6, .inl 6, .inl 0, .inl 1, .inr none, .inl 0, .inr (some (some 146)), .inr (some (some 147)), .inl 0, .inr (some (some 148)), .inr (some (some 149)), .inr (some (some 150)), .inr (some (some 151)), .inr (some (some 152)), .inr (some (some 153)), .inr (some (some 154))]), .inr (0, 4, [], []), .inr (0, 4, [], []), .inr (0, 4, [], []), .inr (0, 4, [], []), .inr (0, 4, [], []), .inr (0, 4, [], []), .inr (0, 16, [], []), .inr (0, 16, [], []), .inr (0, 16, [], []), .inl (3, [.inl 0, .inr (some (some 156)), .inr (some (some 157))]), .inr (0, 40, [], []), .inr (0, 120, [], []), .inl (2, [.inl 0, .inr (some (some 159)), .inl 1, .inl 0, .inl 0, .inr (some (some 160)), .inr (some (some 161))]), .inr (0, 6, [], []), .inr (0, 10, [], []), .inr (0, 10, [], []), .inr (2, 3, [], []), .inl (4, [.inr (some (some 164)), .inr (some (some 174)), .inr (some (some 177)), .inl 0, .inl 0, .inr (some (some 181)), .inl 0, .inl 0, .inl 0, .inl 0, .inl 0, .inl 0]), .inl (0, [.inl 6, .inl 6, .inl 0, .inl 1, .inr none, .inl 0, .inr (some (some 165)), .inr (some (some 166)), .inl 0, .inr (some (some 167)), .inr (some (some 168)), .inr (some (some 169)), .inr (some (some 170)), .inr (some (some 171)), .inr (some (some 172)), .inr (some (some 173))]), .inr (0, 4, [], []), .inr (0, 4, [], []), .inr (0, 4, [], []), .inr (0, 4, [], []), .inr (0, 4, [], []), .inr (0, 4, [], []), .inr (0, 16, [], []), .inr (0, 16, [], []), .inr (0, 16, [], []), .inl (3, [.inl 0, .inr (some (some 175)), .inr (some (some 176))]), .inr (0, 40, [], []), .inr (0, 120, [], []), .inl (2, [.inl 0, .inr (some (some 178)), .inl 1, .inl 0, .inl 0, .inr (some (some 179)), .inr (some (some 180))]), .inr (0, 6, [], []), .inr (0, 10, [], []), .inr (0, 10, [], []), .inr (0, 4, [], []), .inl (1, [.inr (some (some 183)), .inl 0, .inl 0, .inl 0, .inl 0, .inl 0]), .inl (0, [.inl 6, .inl 6, .inl 0, .inl 1, .inr none, .inl 0, .inr (some (some 184)), .inr (some (some 185)), .inl 0, .inr (some (some 186)), .inr (some (some 187)), .inr (some (some 188)), .inr (some (some 189)), .inr (some (some 190)), .inr (some (some 191)), .inr (some (some 192))]), .inr (0, 4, [], []), .inr (0, 4, [], []), .inr (0, 4, [], []), .inr (0, 4, [], []), .inr (0, 4, [], []), .inr (0, 4, [], []), .inr (0, 16, [], []), .inr (0, 16, [], []), .inr (0, 16, [], []), .inl (0, [.inl 6, .inl 6, .inl 0, .inl 1, .inr none, .inl 0, .inr (some (some 194)), .inr (some (some 195)), .inl 0, .inr (some (some 196)), .inr (some (some 197)), .inr (some (some 198)), .inr (some (some 199)), .inr (some (some 200)), .inr (some (some 201)), .inr (some (some 202))]), .inr (0, 4, [], []), .inr (0, 4, [], []), .inr (0, 4, [], []), .inr (0, 4, [], []), .inr (0, 4, [], []), .inr (0, 4, [], []), .inr (0, 16, [], []), .inr (0, 16, [], []), .inr (0, 16, [], []), .inl (5, [.inr none, .inr none, .inr none, .inr none, .inr none, .inl 0, .inr (some (some 204))]), .inr (1, 64, [], [])]
def st_wB : List CE := [.inl (7, [.inr (some (some 1)), .inr (some (some 41)), .inr (some (some 162)), .inr (some (some 163)), .inr (some (some 182)), .inr (some (some 193)), .inr (some (some 203))]), .inl (6, [.inr (some (some 2)), .inl 0, .inl 0, .inl (-1), .inr (some (some 3)), .inr (some (some 4)), .inr (some (some 5)), .inr (some (some 6))]), .inr (0, 600, [], []), .inr (0, 3, [], []), .inr (10, 2, [], [(1, 24), (0, 7)]), .inr (13, 2, [], [(1, 34), (0, 17)]), .inr (12, 2, [], [(1, 37), (0, 20)]), .inl (0, [.inl 6, .inl 6, .inl 0, .inl 1, .inr none, .inl 0, .inr (some (some 8)), .inr (some (some 9)), .inl 0, .inr (some (some 10)), .inr (some (some 11)), .inr (some (some 12)), .inr (some (some 13)), .inr (some (some 14)), .inr (some (some 15)), .inr (some (some 16))]), .inr (0, 4, [], []), .inr (0, 4, [], []), .inr (0, 4, [], []), .inr (0, 4, [], []), .inr (0, 4, [], []), .inr (0, 4, [], []), .inr (0, 16, [], []), .inr (0, 16, [], []), .inr (0, 16, [], []), .inl (3, [.inl 0, .inr (some (some 18)), .inr (some (some 19))]), .inr (0, 40, [], []), .inr (0, 120, [], []), .inl (2, [.inl 0, .inr (some (some 21)), .inl 1, .inl 0, .inl 0, .inr (some (some 22)), .inr (some (some 23))]), .inr (0, 6, [], []), .inr (0, 10, [], []), .inr (0, 10, [], []), .inl (0, [.inl 6, .inl 6, .inl 0, .inl 1, .inr none, .inl 0, .inr (some (some 25)), .inr (some (some 26)), .inl 0, .inr (some (some 27)), .inr (some (some 28)), .inr (some (some 29)), .inr (some (some 30)), .inr (some (some 31)), .inr (some (some 32)), .inr (some (some 33))]), .inr (0, 4, [], []), .inr (0, 4, [], []), .inr (0, 4, [], []), .inr (0, 4, [], []), .inr (0, 4, [], []), .inr (0, 4, [], []), .inr (0, 16, [], []), .inr (0, 16, [], []), .inr (0, 16, [], []), .inl (3, [.inl 0, .inr (some (some 35)), .inr (some (some 36))]), .inr (0, 40, [], []), .inr (0, 120, [], []), .inl (2, [.inl 0, .inr (some (some 38)), .inl 1, .inl 0, .inl 0, .inr (some (some 39)), .inr (some (some 40))]), .inr (0, 6, [], []), .inr (0, 10, [], []), .inr (0, 10, [], []), .inr (16, 3, [], [(2, 122), (1, 82), (0, 42)]), .inl (6, [.inr (some (some 43)), .inl 0, .inl 0, .inl (-1), .inr (some (some 44)), .inr (some (some 45)), .inr (some (some 46)), .inr (some (some 47))]), .inr (0, 600, [], []), .inr (0, 3, [], []), .inr (10, 2, [], [(1, 65), (0, 48)]), .inr (13, 2, [], [(1, 75), (0, 58)]), .inr (12, 2, [], [(1, 78), (0, 61)]), .inl (0, [.inl 6, .inl 6, .inl 0, .inl 1, .inr none, .inl 0, .inr (some (some 49)), .inr (some (some 50)), .inl 0, .inr (some (some 51)), .inr (some (some 52)), .inr (some (some 53)), .inr (some (some 54)), .inr (some (some 55)), .inr (some (some 56)), .inr (some (some 57))]), .inr (0, 4, [], []), .inr (0, 4, [], []), .inr (0, 4, [], []), .inr (0, 4, [], []), .inr (0, 4, [], []), .inr (0, 4, [], []), .inr (0, 16, [], []), .inr (0, 16, [], []), .inr (0, 16, [], []), .inl (3, [.inl 0, .inr (some (some 59)), .inr (some (some 60))]), .inr (0, 40, [], []), .inr (0, 120, [], []), .inl (2, [.inl 0, .inr (some (some 62)), .inl 1, .inl 0, .inl 0, .inr (some (some 63)), .inr (some (some 64))]), .inr (0, 6, [], []), .inr (0, 10, [], []), .inr (0, 10, [], []), .inl (0, [.inl 6, .inl 6, .inl 0, .inl 1, .inr none, .inl 0, .inr (some (some 66)), .inr (some (some 67)), .inl 0, .inr (some (some 68)), .inr (some (some 69)), .inr (some (some 70)), .inr (some (some 71)), .inr (some (some 72)), .inr (some (some 73)), .inr (some (some 74))]), .inr (0, 4, [], []), .inr (0, 4, [], []), .inr (0, 4, [], []), .inr (0, 4, [], []), .inr (0, 4, [], []), .inr (0, 4, [], []), .inr (0, 16, [], []), .inr (0, 16, [], []), .inr (0, 16, [], []), .inl (3, [.inl 0, .inr (some (some 76)), .inr (some (some 77))]), .inr (0, 40, [], []), .inr (0, 120, [], []), .inl (2, [.inl 0, .inr (some (some 79)), .inl 1, .inl 0, .inl 0, .inr (some (some 80)), .inr (some (some 81))]), .inr (0, 6, [], []), .inr (0, 10, [], []), .inr (0, 10, [], []), .inl (6, [.inr (some (some 83)), .inl 0, .inl 0, .inl (-1), .inr (some (some 84)), .inr (some (some 85)), .inr (some (some 86)), .inr (some (some 87))]), .inr (0, 600, [], []), .inr (0, 3, [], []), .inr (10, 2, [], [(1, 105), (0, 88)]), .inr (13, 2, [], [(1, 115), (0, 98)]), .inr (12, 2, [], [(1, 118), (0, 101)]), .inl (0, [.inl 6, .inl 6, .inl 0, .inl 1, .inr none, .inl 0, .inr (some (some 89)), .inr (some (some 90)), .inl 0, .inr (some (some 91)), .inr (some (some 92)), .inr (some (some 93)), .inr (some (some 94)), .inr (some (some 95)), .inr (some (some 96)), .inr (some (some 97))]), .inr (0, 4, [], []), .inr (0, 4, [], []), .inr (0, 4, [], []), .inr (0, 4, [], []), .inr (0, 4, [], []), .inr (0, 4, [], []), .inr (0, 16, [], []), .inr (0, 16, [], []), .inr (0, 16, [], []), .inl (3, [.inl 0, .inr (some (some 99)), .inr (some (some 100))]), .inr (0, 40, [], []), .inr (0, 120, [], []), .inl (2, [.inl 0, .inr (some (some 102)), .inl 1, .inl 0, .inl 0, .inr (some (some 103)), .inr (some (some 104))]), .inr (0, 6, [], []), .inr (0, 10, [], []), .inr (0, 10, [], []), .inl (0, [.inl 6, .inl 6, .inl 0, .inl 1, .inr none, .inl 0, .inr (some (some 106)), .inr (some (some 107)), .inl 0, .inr (some (some 108)), .inr (some (some 109)), .inr (some (some 110)), .inr (some (some 111)), .inr (some (some 112)), .inr (some (some 113)), .inr (some (some 114))]), .inr (0, 4, [], []), .inr (0, 4, [], []), .inr (0, 4, [], []), .inr (0, 4, [], []), .inr (0, 4, [], []), .inr (0, 4, [], []), .inr (0, 16, [], []), .inr (0, 16, [], []), .inr (0, 16, [], []), .inl (3, [.inl 0, .inr (some (some 116)), .inr (some (some 117))]), .inr (0, 40, [], []), .inr (0, 120, [], []), .inl (2, [.inl 0, .inr (some (some 119)), .inl 1, .inl 0, .inl 0, .inr (some (some 120)), .inr (some (some 121))]), .inr (0, 6, [], []), .inr (0, 10, [], []), .inr (0, 10, [], []), .inl (6, [.inr (some (some 123)), .inl 0, .inl 0, .inl (-1), .inr (some (some 124)), .inr (some (some 125)), .inr (some (some 126)), .inr (some (some 127))]), .inr (0, 600, [], []), .inr (0, 3, [], []), .inr (10, 2, [], [(1, 145), (0, 128)]), .inr (13, 2, [], [(1, 155), (0, 138)]), .inr (12, 2, [], [(1, 158), (0, 141)]), .inl (0, [.inl 6, .inl 6, .inl 0, .inl 1, .inr none, .inl 0, .inr (some (some 129)), .inr (some (some 130)), .inl 0, .inr (some (some 131)), .inr (some (some 132)), .inr (some (some 133)), .inr (some (some 134)), .inr (some (some 135)), .inr (some (some 136)), .inr (some (some 137))]), .inr (0, 4, [], []), .inr (0, 4, [], []), .inr (0, 4, [], []), .inr (0, 4, [], []), .inr (0, 4, [], []), .inr (0, 4, [], []), .inr (0, 16, [], []), .inr (0, 16, [], []), .inr (0, 16, [], []), .inl (3, [.inl 0, .inr (some (some 139)), .inr (some (some 140))]), .inr (0, 40, [], []), .inr (0, 120, [], []), .inl (2, [.inl 0, .inr (some (some 142)), .inl 1, .inl 0, .inl 0, .inr (some (some 143)), .inr (some (some 144))]), .inr (0, 6, [], []), .inr (0, 10, [], []), .inr (0, 10, [], []), .inl (0, [.inl 6, .inl 6, .inl 0, .inl 1, .inr none, .inl 0, .inr (some (some 146)), .inr (some (some 147)), .inl 0, .inr (some (some 148)), .inr (some (some 149)), .inr (some (some 150)), .inr (some (some 151)), .inr (some (some 152)), .inr (some (some 153)), .inr (some (some 154))]), .inr (0, 4, [], []), .inr (0, 4, [], []), .inr (0, 4, [], []), .inr (0, 4, [], []), .inr (0, 4, [], []), .inr (0, 4, [], []), .inr (0, 16, [], []), .inr (0, 16, [], []), .inr (0, 16, [], []), .inl (3, [.inl 0, .inr (some (some 156)), .inr (some (some 157))]), .inr (0, 40, [], []), .inr (0, 120, [], []), .inl (2, [.inl 0, .inr (some (some 159)), .inl 1, .inl 0, .inl 0, .inr (some (some 160)), .inr (some (some 161))]), .inr (0, 6, [], []), .inr (0, 10, [], []), .inr (0, 10, [], []), .inr (2, 3, [], []), .inl (4, [.inr (some (some 164)), .inr (some (some 174)), .inr (some (some 177)), .inl 0, .inl 0, .inr (some (some 181)), .inl 0, .inl 0, .inl 0, .inl 0, .inl 0, .inl 0]), .inl (0, [.inl 6, .inl 6, .inl 0, .inl 1, .inr none, .inl 0, .inr (some (some 165)), .inr (some (some 166)), .inl 0, .inr (some (some 167)), .inr (some (some 168)), .inr (some (some 169)), .inr (some (some 170)), .inr (some (some 171)), .inr (some (some 172)), .inr (some (some 173))]), .inr (0, 4, [], []), .inr (0, 4, [], []), .inr (0, 4, [], []), .inr (0, 4, [], []), .inr (0, 4, [], []), .inr (0, 4, [], []), .inr (0, 16, [], []), .inr (0, 16, [], []), .inr (0, 16, [], []), .inl (3, [.inl 0, .inr (some (some 175)), .inr (some (some 176))]), .inr (0, 40, [], []), .inr (0, 120, [], []), .inl (2, [.inl 0, .inr (some (some 178)), .inl 1, .inl 0, .inl 0, .inr (some (some 179)), .inr (some (some 180))]), .inr (0, 6, [], []), .inr (0, 10, [], []), .inr (0, 10, [], []), .inr (0, 4, [], []), .inl (1, [.inr (some (some 183)), .inl 0, .inl 0, .inl 0, .inl 0, .inl 0]), .inl (0, [.inl 6, .inl 6, .inl 0, .inl 1, .inr none, .inl 0, .inr (some (some 184)), .inr (some (some 185)), .inl 0, .inr (some (some 186)), .inr (some (some 187)), .inr (some (some 188)), .inr (some (some 189)), .inr (some (some 190)), .inr (some (some 191)), .inr (some (some 192))]), .inr (0, 4, [], []), .inr (0, 4, [], []), .inr (0, 4, [], []), .inr (0, 4, [], []), .inr (0, 4, [], []), .inr (0, 4, [], []), .inr (0, 16, [], []), .inr (0, 16, [], []), .inr (0, 16, [], []), .inl (0, [.inl 6, .inl 6, .inl 0, .inl 1, .inr none, .inl 0, .inr (some (some 194)), .inr (some (some 195)), .inl 0, .inr (some (some 196)), .inr (some (some 197)), .inr (some (some 198)), .inr (some (some 199)), .inr (some (some 200)), .inr (some (some 201)), .inr (some (some 202))]), .inr (0, 4, [], []), .inr (0, 4, [], []), .inr (0, 4, [], []), .inr (0, 4, [], []), .inr (0, 4, [], []), .inr (0, 4, [], []), .inr (0, 16, [], []), .inr (0, 16, [], []), .inr (0, 16, [], []), .inl (5, [.inr none, .inr none, .inr none, .inr none, .inr none, .inl 0, .inr (some (some 204))]), .inr (1, 64, [], []), .inl (8, [.inr (some (some 206)), .inr (some (some 207)), .inl 0, .inl 0, .inl 0, .inl 0, .inl 0, .inl 0, .inl 0, .inl 0, .inl 0, .inl 0, .inr (some (some 208)), .inl 0, .inl 0, .inl 0, .inl 0, .inr (some (some 209)), .inr (some (some 210)), .inl 0, .inl 0, .inr (some (some 211)), .inl 0, .inl 0, .inl 0, .inl 0, .inl 0, .inr (some (some 212)), .inr (some (some 213)), .inr (some (some 214)), .inl 0, .inl 0, .inr (some (some 215)), .inr (some (some 216)), .inr none, .inr none, .inl 0]), .inr (0, 5104, [(6, (-1))], []), .inr (2, 3, [], []), .inr (0, 161, [], []), .inr (0, 48, [], []), .inr (0, 4, [], []), .inr (0, 4, [], []), .inr (0, 64, [], []), .inr (2, 64, [], []), .inr (2, 64, [], []), .inr (2, 64, [], []), .inr (2, 64, [], [])]
def st_ix : List (Nat × List Nat) := [(0, [7, 24, 48, 65, 88, 105, 128, 145, 164, 183, 193]), (1, [182]), (2, [20, 37, 61, 78, 101, 118, 141, 158, 177]), (3, [17, 34, 58, 75, 98, 115, 138, 155, 174]), (4, [163]), (5, [203]), (6, [1, 42, 82, 122]), (7, [0]), (8, [205]), (10, [8, 25, 49, 66, 89, 106, 129, 146, 165, 184, 194]), (11, [9, 26, 50, 67, 90, 107, 130, 147, 166, 185, 195]), (12, [10, 27, 51, 68, 91, 108, 131, 148, 167, 186, 196]), (13, [11, 28, 52, 69, 92, 109, 132, 149, 168, 187, 197]), (14, [12, 29, 53, 70, 93, 110, 133, 150, 169, 188, 198]), (15, [13, 30, 54, 71, 94, 111, 134, 151, 170, 189, 199]), (16, [14, 31, 55, 72, 95, 112, 135, 152, 171, 190, 200]), (17, [15, 32, 56, 73, 96, 113, 136, 153, 172, 191, 201]), (18, [16, 33, 57, 74, 97, 114, 137, 154, 173, 192, 202]), (19, [21, 38, 62, 79, 102, 119, 142, 159, 178]), (20, [22, 39, 63, 80, 103, 120, 143, 160, 179]), (21, [23, 40, 64, 81, 104, 121, 144, 161, 180]), (22, [18, 35, 59, 76, 99, 116, 139, 156, 175]), (23, [19, 36, 60, 77, 100, 117, 140, 157, 176]), (24, [181]), (25, [204]), (26, [2, 43, 83, 123]), (27, [3, 44, 84, 124]), (28, [4, 45, 85, 125]), (29, [5, 46, 86, 126]), (30, [6, 47, 87, 127]), (31, [41]), (32, [162]), (33, [206]), (34, [207]), (35, [208]), (36, [209]), (37, [210]), (38, [211]), (39, [212]), (40, [213]), (41, [214]), (42, [215]), (43, [216])]
def st_eL {α : Type} (f : α → α → Bool) : List α → List α → Bool
  | [], [] => true
  | a :: x, b :: y => f a b && st_eL f x y
  | _, _ => false
theorem st_eL_ok {α : Type} {f : α → α → Bool} (hf : ∀ a b, f a b = true → a = b) : ∀ {x y : List α}, st_eL f x y = true → x = y
  | [], [], _ => rfl
  | a :: x, b :: y, h => by
    have h : (f a b && st_eL f x y) = true := h
    rw [Bool.and_eq_true] at h
    rw [hf a b h.1, st_eL_ok hf h.2]
  | [], _ :: _, h => by cases h
  | _ :: _, [], h => by cases h
def st_eF (a b : CF) : Bool := match a, b with
  | .inl x, .inl y => decide (x = y)
  | .inr x, .inr y => decide (x = y)
  | _, _ => false
theorem st_eF_ok (a b : CF) (h : st_eF a b = true) : a = b := by
  unfold st_eF at h
  split at h
  · rw [of_decide_eq_true h]
  · rw [of_decide_eq_true h]
  · cases h
def st_eE (a b : CE) : Bool := match a, b with
  | .inl (c, fs), .inl (c', fs') => decide (c = c') && st_eL st_eF fs fs'
  | .inr (k, n, is, rs), .inr (k', n', is', rs') => decide (k = k') && decide (n = n') && st_eL (fun p q => decide (p = q)) is is' && st_eL (fun p q => decide (p = q)) rs rs'
  | _, _ => false
theorem st_eE_ok (a b : CE) (h : st_eE a b = true) : a = b := by
  unfold st_eE at h
  split at h
  · rw [Bool.and_eq_true, decide_eq_true_eq] at h
    rw [h.1, st_eL_ok st_eF_ok h.2]
  · simp only [Bool.and_eq_true, decide_eq_true_eq] at h
    rw [h.1.1.1, h.1.1.2, st_eL_ok (fun _ _ z => of_decide_eq_true z) h.1.2, st_eL_ok (fun _ _ z => of_decide_eq_true z) h.2]
  · cases h
def st_eO (a : Option (List CE)) (w : List CE) : Bool := match a with
  | some v => st_eL st_eE v w
  | none => false
theorem st_eO_ok {a : Option (List CE)} {w : List CE} (h : st_eO a w = true) : a = some w := by
  unfold st_eO at h
  split at h
  · rw [st_eL_ok st_eE_ok h]
  · cases h
theorem st_runA0 : st_eO (cn_ex 4000 (7, 0, cn_ent 7 0, [], [.inl (7, cn_df 7)], 0, 0)) st_wA = true := by decide +kernel
theorem st_runB0 : st_eO (cn_ex 400 (8, 0, cn_ent 8 205, [], st_wA ++ [.inl (8, cn_df 8)], 0, 0)) st_wB = true := by decide +kernel
theorem st_runA : cn_ex 4000 (7, 0, cn_ent 7 0, [], [.inl (7, cn_df 7)], 0, 0) = some st_wA := st_eO_ok st_runA0
theorem st_runB : cn_ex 400 (8, 0, cn_ent 8 205, [], st_wA ++ [.inl (8, cn_df 8)], 0, 0) = some st_wB := st_eO_ok st_runB0
/-- an object's place among the cells -/
def st_i (t i : Nat) : Nat := pm_nth ((pm_lk st_ix t).getD []) i 0
def st_iv (e : CE) (k : Nat) : Int32 := match e with
  | .inl (_, fs) => match fs[k]? with
    | some (.inl x) => x
    | _ => 0
  | .inr (_, _, is, _) => (is.lookup k).getD 0
/-- the first heap -/
def st_h0 (ex : Nat → Nat → Nat → Int32) : PH := (fun t i k => if t < 60 then st_iv (st_wB.getD (st_i t i) (.inl (0, []))) k else ex t i k, fun _ _ _ => 0)
def st_rk (v : PV) (k : Nat) : Bool := match v with
  | some (.inr (.inr (some (t, i)))) => decide (t < 60) && decide (st_i t i = k)
  | _ => false
def st_fck (t i f : Nat) (v : CF) : Bool := match pm_fty t f, v with
  | 0, .inl _ => true
  | 2, .inl _ => true
  | 1, .inr none => true
  | 3, .inr (some (some k)) => st_rk (pm_rf t f i) k
  | _, _ => false
def st_ck (q : Nat × Nat) : Bool := match st_wB[st_i q.1 q.2]? with
  | none => false
  | some (.inl (ci, fs)) => decide (q.1 < 9) && decide (ci = q.1) && decide (fs.length = pm_nf q.1) && (List.range fs.length).all (fun f => match fs[f]? with
    | some v => st_fck q.1 q.2 f v
    | none => false)
  | some (.inr (kd, n, _, rs)) => decide (10 ≤ q.1) && decide (q.1 < 44) && decide (n = (pm_nth pm_at (q.1 - 10) (9, 0)).2) && decide (cn_ty kd = pm_aty q.1) && (match pm_ak q.1 with
    | 0 => decide (kd = 0)
    | 1 => decide (kd = 1)
    | 2 => decide (kd = 2)
    | 3 => decide (10 ≤ kd) && (List.range n).all (fun j => match rs.lookup j with
      | some k => st_rk (pm_aref q.1 q.2 j) k
      | none => false)
    | _ => false)
theorem st_ck_all : pm_obs.all st_ck = true := by decide +kernel
theorem st_inj : (pm_obs.map fun q => st_i q.1 q.2).Nodup := by decide +kernel
theorem st_rk_of {v : PV} {k : Nat} (h : st_rk v k = true) : ∃ t i, v = vr t i ∧ t < 60 ∧ st_i t i = k := by
  unfold st_rk at h
  split at h
  · rename_i t i
    rw [Bool.and_eq_true, decide_eq_true_eq, decide_eq_true_eq] at h
    exact ⟨t, i, rfl, h.1, h.2⟩
  · cases h
theorem arrV_congr {cI : ClassId} {N : Nat} {f g : Nat → Value} (h : ∀ j, j < N → f j = g j) : arrV cI N f = arrV cI N g := by
  unfold arrV
  congr 1
  congr 1
  funext j
  exact h j.val j.isLt
section STW
variable {D : va_G} {A : Nat → Prop} {as : Nat → Nat} {cA : Nat → ClassId} {adx : Nat → Nat → Nat} {ex : Nat → Nat → Nat → Int32}
def st_ad (as : Nat → Nat) (adx : Nat → Nat → Nat) (t i : Nat) : Nat := if t < 60 then as (st_i t i) else adx t i
def st_cA (cA : Nat → ClassId) (t i : Nat) : ClassId := cA (st_i t i)
theorem st_ad_lt {t i : Nat} (h : t < 60) : st_ad as adx t i = as (st_i t i) := if_pos h
theorem st_P {H : Heap} (hP : va_P D vwCl (cn_ws as cA st_wB) H) : va_P D vwCl (pm_ws (st_ad as adx) (st_cA cA) (st_h0 ex)) H := by
  intro k q hk
  unfold pm_ws at hk
  rw [List.getElem?_map] at hk
  cases ek : pm_obs[k]? with
  | none => rw [ek] at hk; cases hk
  | some o =>
    obtain ⟨t, i⟩ := o
    rw [ek] at hk
    have hk := Option.some.inj hk
    subst hk
    have hob := List.mem_of_getElem? ek
    have htag := tf_tag _ hob
    simp only at htag
    have hc := List.all_eq_true.mp st_ck_all _ hob
    unfold st_ck at hc
    have ht60 : t < 60 := by omega
    show va_at D vwCl (st_ad as adx t i, pm_cell (st_ad as adx) (st_cA cA) (st_h0 ex) t i) H
    split at hc
    · cases hc
    · rename_i ci fs hw
      simp only [Bool.and_eq_true, decide_eq_true_eq] at hc
      obtain ⟨⟨⟨c1, c2⟩, c3⟩, c4⟩ := hc
      subst c2
      have hat := hP (st_i ci i) (as (st_i ci i), .inr (ci, fs.map (cn_fv as))) (by rw [cn_ws_get, hw]; rfl)
      rw [pm_cell_o c1, st_ad_lt ht60]
      have e1 : (List.range (pm_nf ci)).map (pm_fv (st_ad as adx) (st_h0 ex) ci i) = fs.map (cn_fv as) := by
        refine List.ext_getElem? fun f => ?_
        rw [List.getElem?_map, List.getElem?_map, ← c3]
        by_cases hf : f < fs.length
        · rw [List.getElem?_range hf]
          have c5 := List.all_eq_true.mp c4 f (List.mem_range.mpr hf)
          rw [List.getElem?_eq_getElem hf] at c5 ⊢
          simp only at c5
          show some (pm_fv (st_ad as adx) (st_h0 ex) ci i f) = some (cn_fv as fs[f])
          have ev : (st_h0 ex).1 ci i f = st_iv (.inl (ci, fs)) f := by
            show (if ci < 60 then _ else _) = _
            rw [if_pos ht60, List.getD_eq_getElem?_getD, hw]
            rfl
          have ev2 : st_iv (.inl (ci, fs)) f = match fs[f] with
            | .inl x => x
            | _ => 0 := by
            unfold st_iv
            dsimp only
            rw [List.getElem?_eq_getElem hf]
            cases fs[f] <;> rfl
          unfold st_fck at c5
          unfold pm_fv
          split at c5
          · rename_i e2 e3
            rw [e2, ev, ev2, e3]
            rfl
          · rename_i e2 e3
            rw [e2, ev, ev2, e3]
            rfl
          · rename_i e2 e3
            rw [e2, e3]
            rfl
          · rename_i kk e2 e3
            rw [e2, e3]
            obtain ⟨t', i', g1, g2, g3⟩ := st_rk_of c5
            rw [g1]
            show some (pm_mp (st_ad as adx) .null (vr t' i')) = some (Value.ref (as kk))
            rw [pm_mp_ref (by omega), st_ad_lt g2, g3]
          · cases c5
        · rw [List.getElem?_eq_none_iff.mpr (by rw [List.length_range]; omega), List.getElem?_eq_none_iff.mpr (Nat.not_lt.mp hf)]
          rfl
      rw [e1]
      exact hat
    · rename_i kd n is rs hw
      simp only [Bool.and_eq_true, decide_eq_true_eq] at hc
      obtain ⟨⟨⟨⟨c1, c2⟩, c3⟩, c4⟩, c5⟩ := hc
      have hat := hP (st_i t i) (as (st_i t i), cn_ce as (cA (st_i t i)) (.inr (kd, n, is, rs))) (by rw [cn_ws_get, hw]; rfl)
      have ev : (st_h0 ex).1 t i = fun j => (is.lookup j).getD 0 := by
        funext j
        show (if t < 60 then _ else _) = _
        rw [if_pos ht60, List.getD_eq_getElem?_getD, hw]
        rfl
      have hat : H[as (st_i t i)]? = some (vp_cell (cA (st_i t i)) (n, if kd = 1 then .inr (.inl (fun _ => 0)) else if kd < 3 then .inl (fun j => (is.lookup j).getD 0) else .inr (.inr (.inr (.inr (fun j => (rs.lookup j).map as)))))) := hat
      split at c5
      · rename_i hk
        have c5 := of_decide_eq_true c5
        subst c5
        rw [pm_cell_I (by omega) hk (by decide) (by decide), st_ad_lt ht60, ev, ← c3]
        exact hat
      · rename_i hk
        have c5 := of_decide_eq_true c5
        subst c5
        rw [pm_cell_L (by omega) hk, st_ad_lt ht60, ← c3]
        exact hat
      · rename_i hk
        have c5 := of_decide_eq_true c5
        subst c5
        rw [pm_cell_I (by omega) hk (by decide) (by decide), st_ad_lt ht60, ev, ← c3]
        exact hat
      · rename_i hk
        simp only [Bool.and_eq_true, decide_eq_true_eq] at c5
        obtain ⟨c6, c7⟩ := c5
        rw [pm_cell_R (by omega) hk, st_ad_lt ht60, ← c3]
        show H[as (st_i t i)]? = some (vp_cell (cA (st_i t i)) (n, .inr (.inr (.inr (.inr (fun j => pm_aad (st_ad as adx) (pm_aref t i j)))))))
        rw [hat, if_neg (by omega), if_neg (by omega), vp_cell_q, vp_cell_q]
        congr 1
        refine arrV_congr fun j hj => ?_
        have c8 := List.all_eq_true.mp c7 j (List.mem_range.mpr hj)
        split at c8
        · rename_i kk hl
          obtain ⟨t', i', g1, g2, g3⟩ := st_rk_of c8
          rw [hl, g1]
          show va_rf (some (as kk)) = va_rf (some (st_ad as adx t' i'))
          rw [st_ad_lt g2, g3]
        · cases c8
      · cases c5
theorem st_D (hD : va_D A (cn_ws as cA st_wB)) : va_D A (pm_ws (st_ad as adx) (st_cA cA) (st_h0 ex)) := by
  have key : ∀ k t i : Nat, pm_obs[k]? = some (t, i) → t < 60 ∧ ∃ e, (cn_ws as cA st_wB)[st_i t i]? = some (as (st_i t i), e) := by
    intro k t i ek
    have hob := List.mem_of_getElem? ek
    have htag := tf_tag _ hob
    simp only at htag
    have hc := List.all_eq_true.mp st_ck_all _ hob
    unfold st_ck at hc
    refine ⟨by omega, ?_⟩
    rw [cn_ws_get]
    dsimp only at hc
    cases hw : st_wB[st_i t i]? with
    | none => rw [hw] at hc; cases hc
    | some e => exact ⟨_, rfl⟩
  refine ⟨fun i j p q hi hj hpq => ?_, fun k q hk => ?_⟩
  · unfold pm_ws at hi hj
    rw [List.getElem?_map] at hi hj
    cases ei : pm_obs[i]? with
    | none => rw [ei] at hi; cases hi
    | some a =>
      cases ej : pm_obs[j]? with
      | none => rw [ej] at hj; cases hj
      | some b =>
        obtain ⟨ta, ia⟩ := a
        obtain ⟨tb, ib⟩ := b
        rw [ei] at hi; rw [ej] at hj
        have hi := Option.some.inj hi
        have hj := Option.some.inj hj
        subst hi; subst hj
        obtain ⟨la, xa, ha⟩ := key _ _ _ ei
        obtain ⟨lb, xb, hb⟩ := key _ _ _ ej
        have hpq : st_ad as adx ta ia = st_ad as adx tb ib := hpq
        rw [st_ad_lt la, st_ad_lt lb] at hpq
        have e1 := hD.1 _ _ _ _ ha hb hpq
        have hp := List.pairwise_iff_getElem.mp st_inj
        have gi : (pm_obs.map fun q => st_i q.1 q.2)[i]? = some (st_i ta ia) := by rw [List.getElem?_map, ei]; rfl
        have gj : (pm_obs.map fun q => st_i q.1 q.2)[j]? = some (st_i tb ib) := by rw [List.getElem?_map, ej]; rfl
        obtain ⟨hi1, hi2⟩ := List.getElem?_eq_some_iff.mp gi
        obtain ⟨hj1, hj2⟩ := List.getElem?_eq_some_iff.mp gj
        rcases Nat.lt_trichotomy i j with h | h | h
        · exact absurd (hi2.trans (e1.trans hj2.symm)) (hp i j hi1 hj1 h)
        · exact h
        · exact absurd (hj2.trans (e1.symm.trans hi2.symm)) (hp j i hj1 hi1 h)
  · unfold pm_ws at hk
    rw [List.getElem?_map] at hk
    cases ek : pm_obs[k]? with
    | none => rw [ek] at hk; cases hk
    | some a =>
      obtain ⟨t, i⟩ := a
      rw [ek] at hk
      have hk := Option.some.inj hk
      subst hk
      obtain ⟨l1, x1, h1⟩ := key _ _ _ ek
      show A (st_ad as adx t i)
      rw [st_ad_lt l1]
      exact hD.2 _ _ h1
theorem st_K {s : State} (hT : cn_Ty D cA st_wB s) : va_K D vwCl (pm_tys (st_cA cA)) s := by
  obtain ⟨tys, hK, hty⟩ := hT
  refine ⟨hK.1, fun k q hk => ?_⟩
  unfold pm_tys at hk
  rw [List.getElem?_map] at hk
  cases ek : (pm_obs.filter fun q => decide (10 ≤ q.1))[k]? with
  | none => rw [ek] at hk; cases hk
  | some o =>
    obtain ⟨t, i⟩ := o
    rw [ek] at hk
    have hk := Option.some.inj hk
    subst hk
    have hm := List.mem_filter.mp (List.mem_of_getElem? ek)
    have h10 : 10 ≤ t := by simpa using hm.2
    have hc := List.all_eq_true.mp st_ck_all _ hm.1
    unfold st_ck at hc
    split at hc
    · cases hc
    · simp only [Bool.and_eq_true, decide_eq_true_eq] at hc
      omega
    · rename_i kd n is rs hw
      simp only [Bool.and_eq_true, decide_eq_true_eq] at hc
      obtain ⟨t0, ht0⟩ := hty _ _ _ _ _ hw
      rw [hc.1.2] at ht0
      exact hK.2 t0 _ ht0
end STW
end
section
-- ===== end of PART A; then your names; then what follows =====
/-! THE CLAIM OUT OF ONE WALK OF THE LAW'S BODY. Your part is whole_start (and what it stands on); all else here is the same for every law, but numbers. -/
def R_law : String := "IllLightLaw"
def lw_P (b : Addr) (xs : List Int32) (args : Array Value) (s : State) : Prop := args = #[.ref b] ∧ s.IntsAt b xs ∧ xs.length ≤ 3072 ∧ (Jvm.Cond.and given_1 narrow_1).before args s = true
def lw_Q (_ : Array Value) (s : State) (o : Outcome) (t : State) : Prop := o = .returned (some (.int 1)) ∧ Framed s o t [] 600000 7302250
def lw_Z (below : List Frame) (a : Array Value) (s : State) : State → Prop := fun t => ∃ o, t.status = .running ∧ Ended t below o ∧ lw_Q a s o t
/-- the law's own end, with 1 on the stack, nothing written that was there before, its room as the claim has it -/
theorem lw_ret {p : Program} {l : Launch} {e : Env} {s : State} {m : MethodId} {below : List Frame} {meth : Method} {c : Code} {b : Nat} (hx : p.tables.exec = Jvm.exec) (hb : c.code = code) (hr : meth.sig.returnType = ret) (hlocks : meth.locks = false) {pc : Nat} {H : Heap} {ls : Array Slot} (hdg : decode code pc = .ok (.ireturn, 1)) : W p l e room_1 s m #[Value.ref b] below meth c H [] 600000 7302250 (lw_Z below #[Value.ref b] s) (F0 m pc ls [.int 1]) := by
  intro T hT X
  obtain ⟨fs, hret, hrun, hended, hW, hframe⟩ := X.leave (v := some (.int 1)) (hlocks := hlocks) (fun h => by rw [hr] at h; cases h)
  have hmeth' : T.vm.method? m = some meth := X.method'
  refine ⟨T.setFrames fs, ?_, .returned (some (.int 1)), hrun, hended, rfl, ⟨_, rfl⟩, hW, hframe⟩
  jvm_step X.here [X.here.top, hx, hb, hdg, hmeth', hr, ret, narrow_b1]
  (try refine ⟨rfl, ?_⟩); (try refine ⟨rfl, ?_⟩)
  first | (intro acts; rw [hret _ acts rfl rfl rfl]) | rw [hret _ _ rfl rfl rfl]
  exact Steps.refl _
/-- what holds at the law's entry: the machine, the code, the tables' words (any of lw_tbl by 'hts w (by decide +kernel)'), the script of L ints xs at the cell b, what the Statement gives of the start (any of its parts by flat_of_before) -/
def lw_At (p : Program) (s : State) (m : MethodId) (meth : Method) (c : Code) (b L : Nat) (xs : Nat → Int32) : Prop :=
  p.tables.exec = Jvm.exec ∧ c.code = code ∧ meth.sig.returnType = ret ∧ c.maxLocals = 4 ∧ s.vm.findClass R_law = some m.cls ∧ (∀ w ∈ lw_tbl, w.before #[Value.ref b] s = true) ∧ va_X b L xs s s.heap ∧ b < s.heap.size ∧ meth.locks = false ∧ (Jvm.Cond.and given_1 narrow_1).before #[Value.ref b] s = true
end
section
/-! what the Statement gives of the world outside; the law up to its loop -/
def st_ex (L : Nat) (xs : Nat → Int32) (t i k : Nat) : Int32 := if t = 61 then (st_sb.getD i []).getD k 0 else if t = 62 then st_t62.getD k 0 else if t = 63 then st_t63.getD k 0 else if t = 64 then st_t64.getD k 0 else if t = 65 then xs k else if t = 66 then Int32.ofNat L else 0
theorem st_lays : (lw_tbl.any (fun w => decide (w = Cond.laysStatic "IllLight$Reader" "WORDS_OF_SORT" "[I")) && lw_tbl.any (fun w => decide (w = Cond.laysStatic "IllLight$Reader" "NUMBERS_OF_WORD" "[I")) && lw_tbl.any (fun w => decide (w = Cond.laysStatic "IllLight$Reader" "MOST" "[I")) && lw_tbl.any (fun w => decide (w = Cond.laysStatic "java/lang/String" "COMPACT_STRINGS" "Z")) && lw_tbl.any (fun w => decide (w = Cond.laysStatic "jdk/internal/util/Preconditions" "SIOOBE_FORMATTER" "Ljava/util/function/BiFunction;")) && lw_tbl.any (fun w => decide (w = Cond.initialized "IllLight$Reader")) && lw_tbl.any (fun w => decide (w = Cond.initialized "java/lang/String")) && lw_tbl.any (fun w => decide (w = Cond.initialized "jdk/internal/util/Preconditions"))) = true := by decide +kernel
theorem st_any {w : Cond} (h : lw_tbl.any (fun v => decide (v = w)) = true) : w ∈ lw_tbl := by
  obtain ⟨v, h1, h2⟩ := List.any_eq_true.mp h
  rw [← of_decide_eq_true h2]
  exact h1
def st_str (i : Nat) : Term := .string "IllLight$Reader" (pm_ST i).1
def st_val (i : Nat) : Term := .field (st_str i) "java/lang/String" "value" "[B"
def st_sck (i : Nat) : Bool := match st_s4.getD i (0, 0, 0, 0) with
  | (a, b, c, d) => st_is a (Cond.exactly (st_str i) "java/lang/String") && st_is b (Cond.eq (.field (st_str i) "java/lang/String" "coder" "B") (.int 0)) && st_is c (Cond.arrayOf (st_val i) .byte) && st_is d (Cond.eq (.length (st_val i)) (.int (Int32.ofNat (pm_nth pm_SL i 0)))) && (List.range (pm_nth pm_SL i 0)).all (fun j => st_is ((st_sp.getD i []).getD j 0) (Cond.eq (.elem (st_val i) (.int (Int32.ofNat j))) (.int ((st_sb.getD i []).getD j 0)))) && decide (lw_tbl[st_sr.getD i 0]? = some (Cond.stringRef "IllLight$Reader" (pm_ST i).1 (pm_ST i).2)) && decide (pm_nth pm_SL i 0 < 2 ^ 31)
theorem st_ks : (List.range 21).all st_sck = true := by decide +kernel
section STX
variable {s : State} {b : Nat} {A : Nat → Prop}
theorem st_of {i : Nat} {c : Cond} {args : Array Value} (hgv : (Jvm.Cond.and given_1 narrow_1).before args s = true) (h : st_is i c = true) : c.before args s = true := flat_of_before _ hgv c (List.mem_of_getElem? (of_decide_eq_true h))
theorem st_string {args : Array Value} (hts : ∀ w ∈ lw_tbl, w.before args s = true) (hgv : (Jvm.Cond.and given_1 narrow_1).before args s = true) (hA : ∀ a : Nat, a < s.heap.size → ¬ A a) (i : Nat) (hi : i < 21) : ∃ q : Nat × Nat, (va_O "java/lang/String" q.1 A s s.heap ∧ va_OF "java/lang/String" "coder" "B" (.int 0) q.1 A s s.heap ∧ va_OF "java/lang/String" "value" "[B" (.ref q.2) q.1 A s s.heap ∧ va_T .byte q.2 (pm_nth pm_SL i 0) (fun j => .int ((st_sb.getD i []).getD j 0)) A s s.heap) ∧ vk_R "IllLight$Reader" (pm_ST i).1 (pm_ST i).2 q.1 s := by
  have h := List.all_eq_true.mp st_ks i (List.mem_range.mpr hi)
  unfold st_sck at h
  split at h
  simp only [Bool.and_eq_true, decide_eq_true_eq] at h
  obtain ⟨⟨⟨⟨⟨⟨h1, h2⟩, h3⟩, h4⟩, h5⟩, h6⟩, h7⟩ := h
  obtain ⟨adK, adV, hS, hev⟩ := vk_Sof (args := args) (s := s) (N := 1) (tm := fun _ => st_str i) (len := [pm_nth pm_SL i 0]) (byt := [st_sb.getD i []]) (A := A)
    (fun j hj => by have : j = 0 := by omega
                    subst this; exact h7)
    (fun j _ => st_of hgv h1) (fun j _ => st_of hgv h2) (fun j _ => st_of hgv h3)
    (fun j hj => by have : j = 0 := by omega
                    subst this; exact st_of hgv h4)
    (fun j hj k hk => by have : j = 0 := by omega
                         subst this; exact st_of hgv (List.all_eq_true.mp h5 k (List.mem_range.mpr hk)))
    (fun a b ha hb hne => absurd (show a = b by omega) hne) hA
  exact ⟨(adK 0, adV 0), hS.1 0 (by decide), vk_R.of (hts _ (List.mem_of_getElem? h6)) (hev 0 (by decide))⟩
theorem st_tab {args : Array Value} {n : String} {N p1 p2 : Nat} {pl : List Nat} {tb : List Int32} (hN : N < 2 ^ 31) (hts : ∀ w ∈ lw_tbl, w.before args s = true) (hgv : (Jvm.Cond.and given_1 narrow_1).before args s = true) (hA : ∀ a : Nat, a < s.heap.size → ¬ A a) (hl : Cond.laysStatic "IllLight$Reader" n "[I" ∈ lw_tbl) (hi : Cond.initialized "IllLight$Reader" ∈ lw_tbl)
    (hk : (st_is p1 (Cond.arrayOf (.static "IllLight$Reader" n "[I") .int) && st_is p2 (Cond.eq (.length (.static "IllLight$Reader" n "[I")) (.int (Int32.ofNat N))) && (List.range N).all (fun j => st_is (pl.getD j 0) (Cond.eq (.elem (.static "IllLight$Reader" n "[I") (.int (Int32.ofNat j))) (.int (tb.getD j 0))))) = true) :
    ∃ q : Nat, va_Z "IllLight$Reader" n "[I" (.ref q) A s s.heap ∧ va_T .int q N (fun k => .int (tb.getD k 0)) A s s.heap := by
  simp only [Bool.and_eq_true] at hk
  obtain ⟨⟨h1, h2⟩, h3⟩ := hk
  obtain ⟨q, hq, hT⟩ := va_Tof (args := args) (tm := .static "IllLight$Reader" n "[I") (ty := .int) (N := N) (f := fun k => .int (tb.getD k 0)) (A := A) hN (st_of hgv h1) (va_eqt (st_of hgv h2)) (fun j hj => va_eqt (st_of hgv (List.all_eq_true.mp h3 j (List.mem_range.mpr hj)))) hA
  exact ⟨q, va_Zref (hts _ hl) (hts _ hi) hq hA, hT⟩
theorem st_X {L : Nat} {xs : Nat → Int32} (hL : L ≤ 3072) (hts : ∀ w ∈ lw_tbl, w.before #[Value.ref b] s = true) (hgv : (Jvm.Cond.and given_1 narrow_1).before #[Value.ref b] s = true) (hA : ∀ a : Nat, a < s.heap.size → ¬ A a) (hX : va_X b L xs s s.heap) (hbl : b < s.heap.size) : ∃ (adx : Nat → Nat → Nat) (fm : Value), adx 65 0 = b ∧ ∀ as : Nat → Nat, pm_X (st_ad as adx) fm A (st_ex L xs) s := by
  have hl := st_lays
  simp only [Bool.and_eq_true] at hl
  obtain ⟨⟨⟨⟨⟨⟨⟨l1, l2⟩, l3⟩, l4⟩, l5⟩, l6⟩, l7⟩, l8⟩ := hl
  obtain ⟨q62, z62, t62⟩ := st_tab (N := 4) (by decide) hts hgv hA (st_any l1) (st_any l6) st_k62
  obtain ⟨q63, z63, t63⟩ := st_tab (N := 21) (by decide) hts hgv hA (st_any l2) (st_any l6) st_k63
  obtain ⟨q64, z64, t64⟩ := st_tab (N := 84) (by decide) hts hgv hA (st_any l3) (st_any l6) st_k64
  have hkc := st_kc
  simp only [Bool.and_eq_true] at hkc
  have zc := va_Zof (A := A) (hts _ (st_any l4)) (hts _ (st_any l7)) (va_eqi (st_of hgv hkc.1)) hA
  have zf := va_Zqof (A := A) (hts _ (st_any l5)) (hts _ (st_any l8)) (st_of hgv hkc.2) hA
  have hstr : ∃ f : Nat → Nat × Nat, ∀ i, i < 21 → ((va_O "java/lang/String" (f i).1 A s s.heap ∧ va_OF "java/lang/String" "coder" "B" (.int 0) (f i).1 A s s.heap ∧ va_OF "java/lang/String" "value" "[B" (.ref (f i).2) (f i).1 A s s.heap ∧ va_T .byte (f i).2 (pm_nth pm_SL i 0) (fun j => .int ((st_sb.getD i []).getD j 0)) A s s.heap) ∧ vk_R "IllLight$Reader" (pm_ST i).1 (pm_ST i).2 (f i).1 s) := by
    have h0 : ∀ i, ∃ q : Nat × Nat, i < 21 → ((va_O "java/lang/String" q.1 A s s.heap ∧ va_OF "java/lang/String" "coder" "B" (.int 0) q.1 A s s.heap ∧ va_OF "java/lang/String" "value" "[B" (.ref q.2) q.1 A s s.heap ∧ va_T .byte q.2 (pm_nth pm_SL i 0) (fun j => .int ((st_sb.getD i []).getD j 0)) A s s.heap) ∧ vk_R "IllLight$Reader" (pm_ST i).1 (pm_ST i).2 q.1 s) := by
      intro i
      by_cases hi : i < 21
      · obtain ⟨q, hq⟩ := st_string hts hgv hA i hi
        exact ⟨q, fun _ => hq⟩
      · exact ⟨(0, 0), fun h => absurd h hi⟩
    exact ⟨fun i => (h0 i).choose, fun i hi => (h0 i).choose_spec hi⟩
  obtain ⟨f, hf⟩ := hstr
  have hfm : ∃ fm : Value, (fm = .null ∨ ∃ a, fm = .ref a) ∧ va_Z "jdk/internal/util/Preconditions" "SIOOBE_FORMATTER" "Ljava/util/function/BiFunction;" fm A s s.heap := by
    rcases zf with z | ⟨t, z⟩
    · exact ⟨.null, Or.inl rfl, z⟩
    · exact ⟨.ref t, Or.inr ⟨t, rfl⟩, z⟩
  obtain ⟨fm, hfm1, hfm2⟩ := hfm
  refine ⟨fun t i => if t = 60 then (f i).1 else if t = 61 then (f i).2 else if t = 62 then q62 else if t = 63 then q63 else if t = 64 then q64 else b, fm, rfl, fun as => ?_⟩
  refine ⟨hfm1, ⟨?_, hbl, hA b hbl⟩, ⟨z62, t62⟩, ⟨z63, t63⟩, ⟨z64, t64⟩, zc, hfm2, fun i hi => (hf i hi).1, fun i hi => (hf i hi).2⟩
  show va_X b (Int32.ofNat L).toNatClampNeg xs s s.heap
  rw [show (Int32.ofNat L).toNatClampNeg = L from nI_clamp (by omega)]
  exact hX
end STX
end
section
section STL
variable {p : Program} {l : Launch} {e : Env} {s : State} {m : MethodId} {below : List Frame} {meth : Method} {c : Code} {b : Nat} {Q : State → Prop} {D : va_G} {A : Nat → Prop}
/-- a constructor called by the law -/
theorem st_init (hx : p.tables.exec = Jvm.exec) (hb : c.code = code) (hml : c.maxLocals = 4) (hown : s.vm.findClass R_law = some m.cls) (hts : ∀ w ∈ pm_tb, w.before #[Value.ref b] s = true) (hN : cn_N s) (hA : ∀ q, s.heap.size ≤ q → A q)
    {k ci a idx pc cells slots : Nat} {w w2 : List CE} {as : Nat → Nat} {cA : Nat → ClassId} {rest : List Value} {H : Heap} {locs : List Loc} {la : Array Slot} (hcx : cn_ex k (ci, 0, cn_ent ci a, [], w, 0, 0) = some w2) (hci : ci < 9) (ha : a < w.length) (hlm : Cond.methodLink R_law idx (cn_y ci) ∈ pm_tb)
    (hroom : (cn_ndm ci).1 + 1 ≤ room_1.frames ∧ 8 + (cn_nmx ci + 11) + (cn_ndm ci).2 ≤ room_1.locals) (hcells : cells + (cn_cp ci).1 ≤ room_1.cells ∧ slots + (cn_cp ci).2 ≤ room_1.slots) (hsz : la.size = 4) (hcs : (rest.map fun v => v.category).sum ≤ 8) (hdg : decode code pc = .ok (.invokespecial idx, 3)) (hH : cn_HR s D A as cA w H locs)
    (kk : ∀ (as' : Nat → Nat) (cA' : Nat → ClassId) (H1 : Heap) (locs1 : List Loc), (∀ j, j < w.length → as' j = as j) → cn_HR s D A as' cA' w2 H1 locs1 → W p l e room_1 s m #[Value.ref b] below meth c H1 locs1 (cells + (cn_cp ci).1) (slots + (cn_cp ci).2) Q (F0 m (pc + 3) la rest)) :
    W p l e room_1 s m #[Value.ref b] below meth c H locs cells slots Q (F0 m pc la (Value.ref (as a) :: rest)) := by
  obtain ⟨hTy, hPw, hDw, hSw⟩ := hH
  obtain ⟨-, -, -, i1, i2, i3⟩ := cf_m hci
  have hM := cn_met (as := as) (cA := cA) (cn_sound l D A k) hcx hci ha
  have hGI : GoodIn pm_tb (cn_ws0 ci) := pm_gw (fun w hw => (List.mem_cons.mp hw).elim (fun z => by rw [z]; exact cf_code hci) (fun z => z))
  have hpS : PreS s H (cn_Pc D A as cA w a) [.ref (as a)] := ⟨cn_bl, fun U hU hW => ⟨rfl, hTy.moved hW.alike, by rw [hU]; exact hPw, hDw, fun q hq => hA q (Nat.le_trans hSw.1 (by rw [hU] at hq; exact hq)), hN.warm hW⟩⟩
  have hrun : va_Run p l e room_1 s m #[Value.ref b] below meth c H locs cells slots (cn_cp ci).1 (cn_cp ci).2 (F0 m pc la (Value.ref (as a) :: rest)) rest (cn_Qc D A as w.length w2 [Value.ref (as a)].toArray) A :=
    va_runI (As := []) (b := as a) (own := R_law) (nL := 4) (index := idx) (n := 0) (Ts := pm_tb) ⟨hx, hb, hml, hown, hts⟩ hM (cwI 0 hts hGI rfl rfl rfl (hts _ i1) (hts _ hlm) (hts _ i2) rfl ⟨i3.1, i3.2, cf_par⟩ hroom) hpS rfl rfl hsz rfl (lv_room hcs) hdg hcells
  intro T hT X
  obtain ⟨v, st₀, t, T', L, h0, X', hLl, e1, e3, ⟨hv, ⟨as', cA', hag', hT1, hP1, hD1⟩, hF1⟩, stp⟩ := hrun T hT X
  obtain ⟨hz, hk⟩ := hF1
  rw [h0] at hz hk
  have hv : v = none := by cases hv; rfl
  subst hv
  have S1 : va_S A s.heap T'.heap (locs ++ L) := ⟨Nat.le_trans hSw.1 (by rw [e1]; exact hz), fun q h1 h2 => by rw [e1, hk q (Nat.lt_of_lt_of_le h1 hSw.1) h2]; exact hSw.2.1 q h1 h2, fun q hq => by
      rcases List.mem_append.mp hq with h | h
      · exact hSw.2.2 q h
      · exact hLl q h⟩
  have hvm : s.vm.Alike t.vm := by rw [← e3]; exact X'.warmed.alike
  obtain ⟨t2, a1, b1⟩ := kk as' cA' T'.heap (locs ++ L) hag' ⟨hT1.moved hvm.symm, by rw [e1]; exact hP1, hD1, S1⟩ T' rfl X'
  exact ⟨t2, stp t2 a1, b1⟩
/-- an object made by the law -/
theorem st_new (hx : p.tables.exec = Jvm.exec) (hb : c.code = code) (hown : s.vm.findClass R_law = some m.cls) (hts : ∀ w ∈ pm_tb, w.before #[Value.ref b] s = true) (hA : ∀ q, s.heap.size ≤ q → A q)
    {ci idx pc cells slots : Nat} {w : List CE} {as : Nat → Nat} {cA : Nat → ClassId} {rest : List Value} {H : Heap} {locs : List Loc} {la : Array Slot} (hci : ci < 9) (hw : cn_ok w = true) (h1 : Cond.classLink R_law idx (cn_n ci) ∈ pm_tb) (h2 : Cond.instantiable (cn_n ci) (pm_nf ci) ∈ pm_tb) (hcells : cells + 1 ≤ room_1.cells ∧ slots + pm_nf ci ≤ room_1.slots) (hdg : decode code pc = .ok (.new idx, 3)) (hH : cn_HR s D A as cA w H locs)
    (kk : ∀ (q : Nat) (H1 : Heap), cn_HR s D A (va_up as w.length q) (va_up cA w.length 0) (w ++ [.inl (ci, cn_df ci)]) H1 locs → W p l e room_1 s m #[Value.ref b] below meth c H1 locs (cells + 1) (slots + pm_nf ci) Q (F0 m (pc + 3) la (.ref q :: rest))) :
    W p l e room_1 s m #[Value.ref b] below meth c H locs cells slots Q (F0 m pc la rest) := by
  obtain ⟨⟨tys, hK, hty⟩, hPw, hDw, hSw⟩ := hH
  obtain ⟨C, T, hcl, hC⟩ := cf_vw hci
  obtain ⟨hin2, ⟨ty, hty2⟩, -⟩ := tf_cls hcl
  have h3 := (cf_m hci).2.2.2.1
  rw [← hC] at h1 h2 h3
  refine va_new (fs := (cn_df ci).map (cn_fv as)) hx hb hts hin2 ty hty2 hown (hts _ h1) (hts _ h2) (hts _ h3) hK hPw hDw hSw hA hcl (cf_df hcl hty2) hcells.1 hcells.2 hdg (fun q H1 hP1 hD1 hS1 => ?_)
  have e1 : cn_ws as cA w ++ [(q, .inr (ci, (cn_df ci).map (cn_fv as)))] = cn_ws (va_up as w.length q) (va_up cA w.length 0) (w ++ [.inl (ci, cn_df ci)]) := (cn_ws_push hw (cf_dfk ci w.length)).symm
  rw [e1] at hP1 hD1
  refine kk q H1 ⟨⟨tys, hK, fun j kd nn is rs hj => ?_⟩, hP1, hD1, hS1⟩
  rcases Nat.lt_or_ge j w.length with h | h
  · rw [List.getElem?_append_left h] at hj
    obtain ⟨t0, ht0⟩ := hty j kd nn is rs hj
    exact ⟨t0, by rw [up_ag j h]; exact ht0⟩
  · rw [List.getElem?_append_right h] at hj
    cases hjj : j - w.length with
    | zero => rw [hjj] at hj; simp at hj
    | succ z => rw [hjj] at hj; simp at hj
end STL
theorem st_dl0 : decode code 0 = .ok (.new 7, 3) := by decide +kernel
theorem st_dl3 : decode code 3 = .ok (.dup, 1) := by decide +kernel
theorem st_dl4 : decode code 4 = .ok (.invokespecial 9, 3) := by decide +kernel
theorem st_dl7 : decode code 7 = .ok (.astore_n 1, 1) := by decide +kernel
theorem st_dl8 : decode code 8 = .ok (.new 10, 3) := by decide +kernel
theorem st_dl11 : decode code 11 = .ok (.dup, 1) := by decide +kernel
theorem st_dl12 : decode code 12 = .ok (.invokespecial 12, 3) := by decide +kernel
theorem st_dl15 : decode code 15 = .ok (.astore_n 2, 1) := by decide +kernel
theorem st_lw : (cn_any (Cond.classLink "IllLightLaw" 7 (cn_n 7)) && cn_any (Cond.instantiable (cn_n 7) (pm_nf 7)) && cn_any (Cond.methodLink "IllLightLaw" 9 (cn_y 7)) && cn_any (Cond.classLink "IllLightLaw" 10 (cn_n 8)) && cn_any (Cond.instantiable (cn_n 8) (pm_nf 8)) && cn_any (Cond.methodLink "IllLightLaw" 12 (cn_y 8))) = true := by decide +kernel
theorem st_okA : cn_ok st_wA = true := by decide +kernel
theorem st_lenA : st_wA.length = 205 := by decide +kernel
def st_nk : Bool := (List.range 9).all (fun m => (cn_cl.getD m []).all (fun q => decide (q.2.2.1 ≠ 1) || decide (lw_tbl[q.2.2.2]? = some (Cond.methodLinkNest (cn_n m) q.1 (cn_y q.2.1) "IllLight"))))
theorem st_nk_ok : st_nk = true := by decide +kernel
theorem st_ao : ([0, 2, 3, 6].all (fun ci => lw_tbl.any (fun w => decide (w = Cond.arrayOver (.object (cn_n ci)))))) = true := by decide +kernel
theorem st_N {s : State} {args : Array Value} (hts : ∀ w ∈ lw_tbl, w.before args s = true) : cn_N s := by
  refine ⟨fun m idx ci pl h => ?_, fun ci hc => ?_⟩
  · obtain ⟨-, h2⟩ := cn_tabm (L := cn_cl) (chk := fun m q => decide (q.2.2.1 ≠ 1) || decide (lw_tbl[q.2.2.2]? = some (Cond.methodLinkNest (cn_n m) q.1 (cn_y q.2.1) "IllLight"))) (by decide) st_nk_ok h
    rw [Bool.or_eq_true, decide_eq_true_eq, decide_eq_true_eq] at h2
    exact va_Nw.of rfl (hts _ (List.mem_of_getElem? (h2.resolve_left (fun z => z rfl))))
  · have h2 := List.all_eq_true.mp st_ao ci (by rcases hc with z | z | z | z <;> subst z <;> simp)
    exact va_AO.of (hts _ (st_any h2))
theorem st_inst : (List.range 9).all (fun ci => lw_tbl.any (fun w => decide (w = Cond.instantiable (cn_n ci) (pm_nf ci)))) = true := by decide +kernel
set_option maxHeartbeats 4000000 in
/-- THE LAW UP TO ITS LOOP: if the simple machine, from the loop on, answers 1, the law does -/
theorem st_law {p : Program} {e : Env} {s : State} {m : MethodId} {below : List Frame} {meth : Method} {c : Code} (l : Launch) {b L : Nat} {xs : Nat → Int32} (hL : L ≤ 3072) (C0 : lw_At p s m meth c b L xs) {h' : PH} (hev : pm_ev (276, 16, [vr 65 0, vr 7 0, vr 8 0, none], [], st_h0 (st_ex L xs)) = some (some (vi 1), h')) : W p l e room_1 s m #[Value.ref b] below meth c s.heap [] 0 0 (lw_Z below #[Value.ref b] s) (entryFrame m ([Value.ref b] : List Value).toArray 4) := by
  obtain ⟨hx, hb, hr, hml, hown, hts, hX, hbl, hlocks, hgv⟩ := id C0
  have hA : ∀ q : Nat, s.heap.size ≤ q → (fun q : Nat => s.heap.size ≤ q) q := fun _ h => h
  have hAn : ∀ a : Nat, a < s.heap.size → ¬ (fun q : Nat => s.heap.size ≤ q) a := fun _ h => Nat.not_le.mpr h
  have htb : ∀ w ∈ pm_tb, w.before #[Value.ref b] s = true := fun w hw => hts w (tf_tb hw)
  have hKc : ∃ (dC : Nat → ClassId) (dI : Nat → Nat → Nat), ∀ (k : Nat) (q : vw_C), vwCl[k]? = some q → u_Kn s q.1 q.2.1 q.2.2 (dC k) (dI k) := by
    have h0 : ∀ k : Nat, ∃ z : ClassId × (Nat → Nat), ∀ q : vw_C, vwCl[k]? = some q → u_Kn s q.1 q.2.1 q.2.2 z.1 z.2 := by
      intro k
      cases hk : vwCl[k]? with
      | none => exact ⟨(0, fun _ => 0), fun q h => by cases h⟩
      | some q =>
        obtain ⟨C, T, N⟩ := q
        have h9 : k < 9 := (List.getElem?_eq_some_iff.mp hk).1
        obtain ⟨C2, T2, h1, h2⟩ := cf_vw h9
        rw [hk] at h1
        cases h1
        have hi := List.all_eq_true.mp st_inst k (List.mem_range.mpr h9)
        obtain ⟨cC, iS, hKn⟩ := u_known (C := C) (T := T) (N := pm_nf k) (n := pm_nf k) htb (tf_cls hk).1 (by rw [h2]; exact hts _ (st_any hi))
        exact ⟨(cC, iS), fun q h => by cases h; exact hKn⟩
    exact ⟨fun k => (h0 k).choose.1, fun k => (h0 k).choose.2, fun k q h => (h0 k).choose_spec q h⟩
  obtain ⟨dC, dI, hKc⟩ := hKc
  obtain ⟨adx, fm, hadx, hXa⟩ := st_X (A := fun q : Nat => s.heap.size ≤ q) hL hts hgv hAn hX hbl
  have hNs := st_N hts
  have hlw := st_lw
  simp only [Bool.and_eq_true] at hlw
  obtain ⟨⟨⟨⟨⟨w1, w2⟩, w3⟩, w4⟩, w5⟩, w6⟩ := hlw
  have hl := lv_entry ([.ref b]) (n := 4) (Nat.le_of_ble_eq_true rfl)
  rw [lg_entry_eq]
  generalize (lg_sl ([.ref b]) ++ List.replicate (4 - (lg_sl ([.ref b])).length) Slot.unset).toArray = la at hl ⊢
  have hl : lv_has la 4 [(0, .ref b)] := hl
  have hH0 : cn_HR s (dC, dI) (fun q : Nat => s.heap.size ≤ q) (fun _ => 0) (fun _ => 0) [] s.heap [] := ⟨⟨[], ⟨hKc, fun k q h => by simp at h⟩, fun k kd n is rs h => by simp at h⟩, fun k q h => by simp [cn_ws] at h, ⟨fun i j p q h => by simp [cn_ws] at h, fun k q h => by simp [cn_ws] at h⟩, va_S.rf⟩
  refine st_new (ci := 7) hx hb hown htb hA (by decide) rfl (pm_any_tb w1) (pm_any_tb w2) ⟨Nat.le_of_ble_eq_true rfl, Nat.le_of_ble_eq_true rfl⟩ st_dl0 hH0 (fun q H1 hH1 => ?_)
  refine lv_dup hx hb st_dl3 rfl ?_
  have e7 : Value.ref q = Value.ref (va_up (fun _ => 0) ([] : List CE).length q 0) := rfl
  rw [e7]
  refine st_init (ci := 7) (a := 0) (k := 4000) hx hb hml hown htb hNs hA st_runA (by decide) (by decide) (pm_any_tb w3) ⟨Nat.le_of_ble_eq_true rfl, Nat.le_of_ble_eq_true rfl⟩ ⟨Nat.le_of_ble_eq_true rfl, Nat.le_of_ble_eq_true rfl⟩ hl.1 (Nat.le_of_ble_eq_true rfl) st_dl4 hH1 (fun as1 cA1 H2 locs2 hag1 hH2 => ?_)
  have e8 : va_up (fun _ => 0) ([] : List CE).length q 0 = as1 0 := (hag1 0 (by decide)).symm
  rw [e8]
  refine lv_astore_n (lv' := [(1, .ref (as1 0)), (0, .ref b)]) hx hb st_dl7 rfl hl (by decide) rfl (fun la hl => ?_)
  refine st_new (ci := 8) hx hb hown htb hA (by decide) st_okA (pm_any_tb w4) (pm_any_tb w5) ⟨Nat.le_of_ble_eq_true rfl, Nat.le_of_ble_eq_true rfl⟩ st_dl8 hH2 (fun q2 H3 hH3 => ?_)
  refine lv_dup hx hb st_dl11 rfl ?_
  have e9 : Value.ref q2 = Value.ref (va_up as1 st_wA.length q2 205) := by rw [st_lenA, va_up_self]
  rw [e9]
  refine st_init (ci := 8) (a := 205) (k := 400) hx hb hml hown htb hNs hA st_runB (by decide) (by rw [List.length_append, st_lenA]; decide) (pm_any_tb w6) ⟨Nat.le_of_ble_eq_true rfl, Nat.le_of_ble_eq_true rfl⟩ ⟨Nat.le_of_ble_eq_true rfl, Nat.le_of_ble_eq_true rfl⟩ hl.1 (Nat.le_of_ble_eq_true rfl) st_dl12 hH3 (fun as2 cA2 H4 locs4 hag2 hH4 => ?_)
  have hl205 : 205 < (st_wA ++ [(Sum.inl (8, cn_df 8) : CE)]).length := by rw [List.length_append, st_lenA]; decide
  have e10 : va_up as1 st_wA.length q2 205 = as2 205 := (hag2 205 hl205).symm
  have e11 : as1 0 = as2 0 := by
    rw [hag2 0 (by omega), up_ag 0 (by rw [st_lenA]; decide)]
  rw [e10]
  rw [e11] at hl
  refine lv_astore_n (lv' := [(2, .ref (as2 205)), (1, .ref (as2 0)), (0, .ref b)]) hx hb st_dl15 rfl hl (by decide) rfl (fun la hl => ?_)
  obtain ⟨hT4, hP4, hD4, hS4⟩ := hH4
  obtain ⟨n, hn⟩ := pm_ev_iff.mp hev
  have F : pm_Fr p room_1 s m #[Value.ref b] c (0 + 1 + (cn_cp 7).1 + 1 + (cn_cp 8).1) (0 + pm_nf 7 + (cn_cp 7).2 + pm_nf 8 + (cn_cp 8).2) (dC, dI) (st_cA cA2) (st_ad as2 adx) fm (fun q : Nat => s.heap.size ≤ q) (st_ex L xs) 276 := ⟨hx, hb, hml, hown, htb, st_K hT4, hXa as2, Nat.le_of_ble_eq_true rfl, Nat.le_of_ble_eq_true rfl, Nat.le_of_ble_eq_true rfl, Nat.le_of_ble_eq_true rfl⟩
  have hRt : pm_RtW p l e room_1 s m #[Value.ref b] below meth c (0 + 1 + (cn_cp 7).1 + 1 + (cn_cp 8).1) (0 + pm_nf 7 + (cn_cp 7).2 + pm_nf 8 + (cn_cp 8).2) (lw_Z below #[Value.ref b] s) (dC, dI) (st_cA cA2) (st_ad as2 adx) fm (fun q : Nat => s.heap.size ≤ q) (st_ex L xs) 276 (some (vi 1), h') := by
    intro H locs la pc0 hH
    refine ⟨fun x e1 e2 e3 e4 => ?_, (fun x e1 => by cases e1), (fun x e1 => by cases e1), (fun e1 => by cases e1)⟩
    cases e1
    refine va_forget (fun q hq => hH.2.2.1.2.2 q hq) ?_
    refine W.widen (k := 600000) (n := 7302250) (Nat.le_of_ble_eq_true rfl) (Nat.le_of_ble_eq_true rfl) ?_
    exact lw_ret hx hb hr hlocks e4
  have K := pm_sound l (dC, dI) (st_cA cA2) (st_ad as2 adx) fm (fun q : Nat => s.heap.size ≤ q) (st_ex L xs) n p e room_1 s m #[Value.ref b] below meth c _ _ (lw_Z below #[Value.ref b] s) 276 16 [vr 65 0, vr 7 0, vr 8 0, none] [] (st_h0 (st_ex L xs)) _ F hn ?_ hRt
  · refine K H4 locs4 la ⟨st_P hP4, st_D hD4, hS4, fun t ht => ?_⟩ ?_
    · funext i k
      show (if t < 60 then _ else _) = _
      rw [if_neg (by omega)]
    · refine pm_LR.of rfl hl (fun q hq => ?_)
      obtain ⟨v, hv, e0⟩ := pm_lv_mem.mp hq
      have hv : ([vr 65 0, vr 7 0, vr 8 0, none] : List PV)[q.1]? = some (some v) := hv
      obtain ⟨k, vv⟩ := q
      match k, hv with
      | 0, hv => cases hv; rw [show vv = Value.ref b from by rw [show vv = pm_mp (st_ad as2 adx) fm (vr 65 0) from e0, pm_mp_ref (by decide)]; show Value.ref (adx 65 0) = _; rw [hadx]]; simp
      | 1, hv => cases hv; rw [show vv = Value.ref (as2 0) from by rw [show vv = pm_mp (st_ad as2 adx) fm (vr 7 0) from e0, pm_mp_ref (by decide)]; rfl]; simp
      | 2, hv => cases hv; rw [show vv = Value.ref (as2 205) from by rw [show vv = pm_mp (st_ad as2 adx) fm (vr 8 0) from e0, pm_mp_ref (by decide)]; rfl]; simp
      | 3, hv => cases hv
      | n + 4, hv => simp at hv
  · refine ⟨fun v hv => ?_, fun v hv => by cases hv⟩
    have hv : v ∈ ([vr 65 0, vr 7 0, vr 8 0, none] : List PV) := hv
    simp only [List.mem_cons, List.not_mem_nil, or_false] at hv
    rcases hv with z | z | z | z
    · subst z; exact Or.inr (Or.inr (Or.inl ⟨by decide, by decide, rfl⟩))
    · subst z; exact Or.inl (by decide +kernel)
    · subst z; exact Or.inl (by decide +kernel)
    · subst z; trivial
end
section
set_option maxRecDepth 100000 in
set_option maxHeartbeats 400000 in
/-- IllLight$Coast.meant(III)I -/
theorem E_X0_meant_26 (h : PH)  : pm_ev (15, 26, [none, none, none, none, none, none], [], h) = some (some (vi 0), h) := (ev_rc [26, 28, 51, 55, 64, 104, 112, 133, 134, 135, 151, 152, 153, 192, 193, 194] 120 _).trans rfl

set_option maxRecDepth 100000 in
set_option maxHeartbeats 400000 in
/-- IllLight$Coast.meant(III)I -/
theorem E_X0_meant_28 (h : PH) (q0 : Nat) (x1 : Int32) (x2 : Int32) (x3 : Int32) : pm_ev (15, 28, [vr 0 q0, vi x1, vi x2, vi x3, none, none], [], h) = (if pm_inb ((4 * x1) + x2) 16 = true then (if h.1 16 q0 (((4 * x1) + x2).toNatClampNeg) = 1 then pm_ev (15, 55, [vr 0 q0, none, none, vi x3, none, none], [vi (4 * x1)], h) else pm_ev (15, 51, [vr 0 q0, none, vi x2, vi x3, vi (4 * x1), none], [], h)) else none) := (ev_rc [26, 28, 51, 55, 64, 104, 112, 133, 134, 135, 151, 152, 153, 192, 193, 194] 120 _).trans rfl

set_option maxRecDepth 100000 in
set_option maxHeartbeats 400000 in
/-- IllLight$Coast.meant(III)I -/
theorem E_X0_meant_55 (h : PH) (q0 : Nat) (x3 : Int32) (s0 : Int32) : pm_ev (15, 55, [vr 0 q0, none, none, vi x3, none, none], [vi s0], h) = (if pm_inb s0 16 = true then pm_ev (15, 64, [vr 0 q0, none, none, vi x3, none, vi s0], [vi (h.1 16 q0 s0.toNatClampNeg)], h) else none) := (ev_rc [26, 28, 51, 55, 64, 104, 112, 133, 134, 135, 151, 152, 153, 192, 193, 194] 120 _).trans rfl

set_option maxRecDepth 100000 in
set_option maxHeartbeats 400000 in
/-- IllLight$Coast.meant(III)I -/
theorem E_X0_meant_51 (h : PH) (q0 : Nat) (x2 : Int32) (x3 : Int32) (x4 : Int32) : pm_ev (15, 51, [vr 0 q0, none, vi x2, vi x3, vi x4, none], [], h) = pm_ev (15, 55, [vr 0 q0, none, none, vi x3, none, none], [vi (x4 + x2)], h) := (ev_rc [26, 28, 51, 55, 64, 104, 112, 133, 134, 135, 151, 152, 153, 192, 193, 194] 120 _).trans rfl

set_option maxRecDepth 100000 in
set_option maxHeartbeats 400000 in
/-- IllLight$Coast.meant(III)I -/
theorem E_X0_meant_64 (h : PH) (q0 : Nat) (x3 : Int32) (x5 : Int32) (s0 : Int32) : pm_ev (15, 64, [vr 0 q0, none, none, vi x3, none, vi x5], [vi s0], h) = (if s0 = 0 then pm_ev (15, 104, [vr 0 q0, none, none, none, none, vi x5], [], h) else (if s0 = 1 then pm_ev (15, 194, [none, none, none, none, none, none], [], h) else (if s0 = 2 then pm_ev (15, 112, [vr 0 q0, none, none, vi x3, none, vi x5], [], h) else (if s0 = 3 then pm_ev (15, 135, [vr 0 q0, none, none, vi x3, none, vi x5], [], h) else (if s0 = 4 then pm_ev (15, 194, [none, none, none, none, none, none], [], h) else (if s0 = 5 then pm_ev (15, 153, [vr 0 q0, none, none, none, none, vi x5], [], h) else pm_ev (15, 194, [none, none, none, none, none, none], [], h))))))) := (ev_rc [26, 28, 51, 55, 64, 104, 112, 133, 134, 135, 151, 152, 153, 192, 193, 194] 120 _).trans rfl

set_option maxRecDepth 100000 in
set_option maxHeartbeats 400000 in
/-- IllLight$Coast.meant(III)I -/
theorem E_X0_meant_194 (h : PH)  : pm_ev (15, 194, [none, none, none, none, none, none], [], h) = some (some (vi 0), h) := (ev_rc [26, 28, 51, 55, 64, 104, 112, 133, 134, 135, 151, 152, 153, 192, 193, 194] 120 _).trans rfl

set_option maxRecDepth 100000 in
set_option maxHeartbeats 400000 in
/-- IllLight$Coast.meant(III)I -/
theorem E_X0_meant_153 (h : PH) (q0 : Nat) (x5 : Int32) : pm_ev (15, 153, [vr 0 q0, none, none, none, none, vi x5], [], h) = (if pm_inb x5 16 = true then (if h.1 17 q0 x5.toNatClampNeg < 0 then pm_ev (15, 192, [none, none, none, none, none, none], [], h) else (if pm_inb x5 16 = true then (if h.1 17 q0 x5.toNatClampNeg < h.1 0 q0 8 then (if pm_inb x5 16 = true then (if pm_inb (h.1 17 q0 x5.toNatClampNeg) 4 = true then pm_ev (15, 193, [none, none, none, none, none, none], [vi (h.1 13 q0 ((h.1 17 q0 x5.toNatClampNeg).toNatClampNeg))], h) else none) else none) else pm_ev (15, 192, [none, none, none, none, none, none], [], h)) else none)) else none) := (ev_rc [26, 28, 51, 55, 64, 104, 112, 133, 134, 135, 151, 152, 153, 192, 193, 194] 120 _).trans rfl

set_option maxRecDepth 100000 in
set_option maxHeartbeats 400000 in
/-- IllLight$Coast.meant(III)I -/
theorem E_X0_meant_135 (h : PH) (q0 : Nat) (x3 : Int32) (x5 : Int32) : pm_ev (15, 135, [vr 0 q0, none, none, vi x3, none, vi x5], [], h) = (if x3 - x3 / 2 * 2 = 0 then (if pm_inb x5 16 = true then pm_ev (15, 152, [none, none, none, none, none, none], [vi (h.1 17 q0 x5.toNatClampNeg)], h) else none) else pm_ev (15, 151, [none, none, none, none, none, none], [], h)) := (ev_rc [26, 28, 51, 55, 64, 104, 112, 133, 134, 135, 151, 152, 153, 192, 193, 194] 120 _).trans rfl

set_option maxRecDepth 100000 in
set_option maxHeartbeats 400000 in
/-- IllLight$Coast.meant(III)I -/
theorem E_X0_meant_112 (h : PH) (q0 : Nat) (x3 : Int32) (x5 : Int32) : pm_ev (15, 112, [vr 0 q0, none, none, vi x3, none, vi x5], [], h) = (if pm_inb x5 16 = true then (if x3 < h.1 18 q0 x5.toNatClampNeg then (if pm_inb x5 16 = true then pm_ev (15, 134, [none, none, none, none, none, none], [vi (h.1 17 q0 x5.toNatClampNeg)], h) else none) else pm_ev (15, 133, [none, none, none, none, none, none], [], h)) else none) := (ev_rc [26, 28, 51, 55, 64, 104, 112, 133, 134, 135, 151, 152, 153, 192, 193, 194] 120 _).trans rfl

set_option maxRecDepth 100000 in
set_option maxHeartbeats 400000 in
/-- IllLight$Coast.meant(III)I -/
theorem E_X0_meant_104 (h : PH) (q0 : Nat) (x5 : Int32) : pm_ev (15, 104, [vr 0 q0, none, none, none, none, vi x5], [], h) = (if pm_inb x5 16 = true then some (some (vi (h.1 17 q0 x5.toNatClampNeg)), h) else none) := (ev_rc [26, 28, 51, 55, 64, 104, 112, 133, 134, 135, 151, 152, 153, 192, 193, 194] 120 _).trans rfl

set_option maxRecDepth 100000 in
set_option maxHeartbeats 400000 in
/-- IllLight$Coast.meant(III)I -/
theorem E_X0_meant_192 (h : PH)  : pm_ev (15, 192, [none, none, none, none, none, none], [], h) = pm_ev (15, 193, [none, none, none, none, none, none], [vi 0], h) := (ev_rc [26, 28, 51, 55, 64, 104, 112, 133, 134, 135, 151, 152, 153, 192, 193, 194] 120 _).trans rfl

set_option maxRecDepth 100000 in
set_option maxHeartbeats 400000 in
/-- IllLight$Coast.meant(III)I -/
theorem E_X0_meant_193 (h : PH) (s0 : Int32) : pm_ev (15, 193, [none, none, none, none, none, none], [vi s0], h) = some (some (vi s0), h) := (ev_rc [26, 28, 51, 55, 64, 104, 112, 133, 134, 135, 151, 152, 153, 192, 193, 194] 120 _).trans rfl

set_option maxRecDepth 100000 in
set_option maxHeartbeats 400000 in
/-- IllLight$Coast.meant(III)I -/
theorem E_X0_meant_152 (h : PH) (s0 : Int32) : pm_ev (15, 152, [none, none, none, none, none, none], [vi s0], h) = some (some (vi s0), h) := (ev_rc [26, 28, 51, 55, 64, 104, 112, 133, 134, 135, 151, 152, 153, 192, 193, 194] 120 _).trans rfl

set_option maxRecDepth 100000 in
set_option maxHeartbeats 400000 in
/-- IllLight$Coast.meant(III)I -/
theorem E_X0_meant_151 (h : PH)  : pm_ev (15, 151, [none, none, none, none, none, none], [], h) = pm_ev (15, 152, [none, none, none, none, none, none], [vi 0], h) := (ev_rc [26, 28, 51, 55, 64, 104, 112, 133, 134, 135, 151, 152, 153, 192, 193, 194] 120 _).trans rfl

set_option maxRecDepth 100000 in
set_option maxHeartbeats 400000 in
/-- IllLight$Coast.meant(III)I -/
theorem E_X0_meant_134 (h : PH) (s0 : Int32) : pm_ev (15, 134, [none, none, none, none, none, none], [vi s0], h) = some (some (vi s0), h) := (ev_rc [26, 28, 51, 55, 64, 104, 112, 133, 134, 135, 151, 152, 153, 192, 193, 194] 120 _).trans rfl

set_option maxRecDepth 100000 in
set_option maxHeartbeats 400000 in
/-- IllLight$Coast.meant(III)I -/
theorem E_X0_meant_133 (h : PH)  : pm_ev (15, 133, [none, none, none, none, none, none], [], h) = pm_ev (15, 134, [none, none, none, none, none, none], [vi 0], h) := (ev_rc [26, 28, 51, 55, 64, 104, 112, 133, 134, 135, 151, 152, 153, 192, 193, 194] 120 _).trans rfl
end
